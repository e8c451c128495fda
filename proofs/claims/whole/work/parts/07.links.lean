/-! links, by name -/
theorem tb_in_1 {w : Cond} (h : w ∈ tables_1_1) : w ∈ lw_tbl := List.mem_append_right _ (List.mem_append_left _ h)
theorem tb_in_2 {w : Cond} (h : w ∈ tables_1_2) : w ∈ lw_tbl := List.mem_append_right _ (List.mem_append_right _ (List.mem_append_left _ h))
theorem tb_in_3 {w : Cond} (h : w ∈ tables_1_3) : w ∈ lw_tbl := List.mem_append_right _ (List.mem_append_right _ (List.mem_append_right _ (List.mem_append_left _ h)))
theorem tb_in_4 {w : Cond} (h : w ∈ tables_1_4) : w ∈ lw_tbl := List.mem_append_right _ (List.mem_append_right _ (List.mem_append_right _ (List.mem_append_right _ (List.mem_append_left _ h))))
theorem tb_in_5 {w : Cond} (h : w ∈ tables_1_5) : w ∈ lw_tbl := List.mem_append_right _ (List.mem_append_right _ (List.mem_append_right _ (List.mem_append_right _ (List.mem_append_right _ h))))
theorem fn_X1_34 : Cond.fieldLinkNest RX1 34 "Timesheets$Timeline" "stretchList" "LTimesheets$Table;" "Timesheets" ∈ lw_tbl := tb_in_1 (List.mem_of_getElem? (l := tables_1_1) (i := 91) rfl)
theorem fn_X5_34 : Cond.fieldLinkNest RX5 34 "Timesheets$Employee" "punches" "LTimesheets$Table;" "Timesheets" ∈ lw_tbl := tb_in_2 (List.mem_of_getElem? (l := tables_1_2) (i := 13) rfl)
theorem fn_X5_46 : Cond.fieldLinkNest RX5 46 "Timesheets$Shifts" "spans" "LTimesheets$Table;" "Timesheets" ∈ lw_tbl := tb_in_1 (List.mem_of_getElem? (l := tables_1_1) (i := 76) rfl)
theorem fn_X5_53 : Cond.fieldLinkNest RX5 53 "Timesheets$Employee" "entries" "LTimesheets$Table;" "Timesheets" ∈ lw_tbl := tb_in_2 (List.mem_of_getElem? (l := tables_1_2) (i := 16) rfl)
theorem fn_X5_56 : Cond.fieldLinkNest RX5 56 "Timesheets$Employee" "breaks" "LTimesheets$Table;" "Timesheets" ∈ lw_tbl := tb_in_2 (List.mem_of_getElem? (l := tables_1_2) (i := 19) rfl)
theorem fn_X6_33 : Cond.fieldLinkNest RX6 33 "Timesheets$Payroll" "timeline" "LTimesheets$Timeline;" "Timesheets" ∈ lw_tbl := tb_in_1 (List.mem_of_getElem? (l := tables_1_1) (i := 107) rfl)
theorem fn_X6_38 : Cond.fieldLinkNest RX6 38 "Timesheets$Timeline" "shiftList" "LTimesheets$Shifts;" "Timesheets" ∈ lw_tbl := tb_in_1 (List.mem_of_getElem? (l := tables_1_1) (i := 88) rfl)
theorem fn_X6_64 : Cond.fieldLinkNest RX6 64 "Timesheets$Employee" "wage" "I" "Timesheets" ∈ lw_tbl := tb_in_2 (List.mem_of_getElem? (l := tables_1_2) (i := 7) rfl)
theorem fn_X6_67 : Cond.fieldLinkNest RX6 67 "Timesheets$Employee" "punches" "LTimesheets$Table;" "Timesheets" ∈ lw_tbl := tb_in_2 (List.mem_of_getElem? (l := tables_1_2) (i := 14) rfl)
theorem fn_X6_109 : Cond.fieldLinkNest RX6 109 "Timesheets$Employee" "entries" "LTimesheets$Table;" "Timesheets" ∈ lw_tbl := tb_in_2 (List.mem_of_getElem? (l := tables_1_2) (i := 17) rfl)
theorem fn_X6_119 : Cond.fieldLinkNest RX6 119 "Timesheets$Employee" "breaks" "LTimesheets$Table;" "Timesheets" ∈ lw_tbl := tb_in_2 (List.mem_of_getElem? (l := tables_1_2) (i := 20) rfl)
theorem fn_X6_122 : Cond.fieldLinkNest RX6 122 "Timesheets$Premiums" "rows" "LTimesheets$Table;" "Timesheets" ∈ lw_tbl := tb_in_1 (List.mem_of_getElem? (l := tables_1_1) (i := 51) rfl)
theorem fn_X6_139 : Cond.fieldLinkNest RX6 139 "Timesheets$Payroll" "parts" "LTimesheets$Table;" "Timesheets" ∈ lw_tbl := tb_in_1 (List.mem_of_getElem? (l := tables_1_1) (i := 110) rfl)
theorem fn_X6_149 : Cond.fieldLinkNest RX6 149 "Timesheets$Employee" "weeksClosed" "I" "Timesheets" ∈ lw_tbl := tb_in_2 (List.mem_of_getElem? (l := tables_1_2) (i := 9) rfl)
theorem fn_X6_152 : Cond.fieldLinkNest RX6 152 "Timesheets$Employee" "earnings" "J" "Timesheets" ∈ lw_tbl := tb_in_2 (List.mem_of_getElem? (l := tables_1_2) (i := 11) rfl)
theorem fn_X6_161 : Cond.fieldLinkNest RX6 161 "Timesheets$Shifts" "spans" "LTimesheets$Table;" "Timesheets" ∈ lw_tbl := tb_in_1 (List.mem_of_getElem? (l := tables_1_1) (i := 77) rfl)
theorem fn_X6_167 : Cond.fieldLinkNest RX6 167 "Timesheets$Shifts" "repaired" "I" "Timesheets" ∈ lw_tbl := tb_in_1 (List.mem_of_getElem? (l := tables_1_1) (i := 79) rfl)
theorem fn_X6_174 : Cond.fieldLinkNest RX6 174 "Timesheets$Timeline" "coveredTwice" "I" "Timesheets" ∈ lw_tbl := tb_in_1 (List.mem_of_getElem? (l := tables_1_1) (i := 94) rfl)
theorem fn_X6_177 : Cond.fieldLinkNest RX6 177 "Timesheets$Timeline" "stretchList" "LTimesheets$Table;" "Timesheets" ∈ lw_tbl := tb_in_1 (List.mem_of_getElem? (l := tables_1_1) (i := 92) rfl)
theorem vl_L_7 : VL RL 7 yX6_hire cX6_hire 3 (some .int) := ⟨kw_113, kw_114, kw_115, kw_2, kw_116, by decide +kernel, by decide +kernel⟩
theorem vl_L_17 : VL RL 17 yX6_setWage cX6_setWage 5 (some .int) := ⟨kw_156, kw_157, kw_158, kw_2, kw_159, by decide +kernel, by decide +kernel⟩
theorem vl_L_23 : VL RL 23 yX6_punch cX6_punch 6 (some .int) := ⟨kw_177, kw_178, kw_179, kw_2, kw_180, by decide +kernel, by decide +kernel⟩
theorem vl_L_27 : VL RL 27 yX6_removePunch cX6_removePunch 6 (some .boolean) := ⟨kw_222, kw_223, kw_224, kw_2, kw_225, by decide +kernel, by decide +kernel⟩
theorem vl_L_33 : VL RL 33 yX6_enter cX6_enter 4 (some .int) := ⟨kw_239, kw_240, kw_241, kw_2, kw_242, by decide +kernel, by decide +kernel⟩
theorem vl_L_37 : VL RL 37 yX6_removeEntry cX6_removeEntry 3 (some .int) := ⟨kw_263, kw_264, kw_265, kw_2, kw_266, by decide +kernel, by decide +kernel⟩
theorem vl_L_40 : VL RL 40 yX6_enterBreak cX6_enterBreak 4 (some .int) := ⟨kw_284, kw_285, kw_286, kw_2, kw_287, by decide +kernel, by decide +kernel⟩
theorem vl_L_43 : VL RL 43 yX6_removeBreak cX6_removeBreak 3 (some .int) := ⟨kw_295, kw_296, kw_297, kw_2, kw_298, by decide +kernel, by decide +kernel⟩
theorem vl_L_46 : VL RL 46 yX6_addPremium cX6_addPremium 5 (some .int) := ⟨kw_306, kw_307, kw_308, kw_2, kw_309, by decide +kernel, by decide +kernel⟩
theorem vl_L_50 : VL RL 50 yX6_removePremium cX6_removePremium 2 (some .int) := ⟨kw_325, kw_326, kw_327, kw_2, kw_328, by decide +kernel, by decide +kernel⟩
theorem vl_L_53 : VL RL 53 yX6_closeWeek cX6_closeWeek 4 (some .int) := ⟨kw_336, kw_337, kw_338, kw_2, kw_339, by decide +kernel, by decide +kernel⟩
theorem vl_L_56 : VL RL 56 yX6_closedWeeks cX6_closedWeeks 2 (some .int) := ⟨kw_535, kw_536, kw_537, kw_2, kw_538, by decide +kernel, by decide +kernel⟩
theorem vl_L_59 : VL RL 59 yX6_earned cX6_earned 2 (some .long) := ⟨kw_550, kw_551, kw_552, kw_2, kw_553, by decide +kernel, by decide +kernel⟩
theorem vl_L_63 : VL RL 63 yX6_shifts cX6_shifts 2 (some .int) := ⟨kw_561, kw_562, kw_563, kw_2, kw_564, by decide +kernel, by decide +kernel⟩
theorem vl_L_66 : VL RL 66 yX6_shiftBegin cX6_shiftBegin 3 (some .int) := ⟨kw_577, kw_578, kw_579, kw_2, kw_580, by decide +kernel, by decide +kernel⟩
theorem vl_L_69 : VL RL 69 yX6_shiftEnd cX6_shiftEnd 3 (some .int) := ⟨kw_588, kw_589, kw_590, kw_2, kw_591, by decide +kernel, by decide +kernel⟩
theorem vl_L_72 : VL RL 72 yX6_repairedShifts cX6_repairedShifts 2 (some .int) := ⟨kw_599, kw_600, kw_601, kw_2, kw_602, by decide +kernel, by decide +kernel⟩
theorem vl_L_75 : VL RL 75 yX6_coverage cX6_coverage 4 (some .int) := ⟨kw_610, kw_611, kw_612, kw_2, kw_613, by decide +kernel, by decide +kernel⟩
theorem vl_L_78 : VL RL 78 yX6_overlap cX6_overlap 2 (some .int) := ⟨kw_624, kw_625, kw_626, kw_2, kw_627, by decide +kernel, by decide +kernel⟩
theorem vl_L_81 : VL RL 81 yX6_workedOn cX6_workedOn 4 (some .int) := ⟨kw_636, kw_637, kw_638, kw_2, kw_639, by decide +kernel, by decide +kernel⟩
theorem vl_L_84 : VL RL 84 yX6_stretches cX6_stretches 2 (some .int) := ⟨kw_648, kw_649, kw_650, kw_2, kw_651, by decide +kernel, by decide +kernel⟩
theorem vl_L_87 : VL RL 87 yX6_longestStretch cX6_longestStretch 2 (some .int) := ⟨kw_659, kw_660, kw_661, kw_2, kw_662, by decide +kernel, by decide +kernel⟩
theorem vl_L_90 : VL RL 90 yX6_category cX6_category 4 (some .int) := ⟨kw_673, kw_674, kw_675, kw_2, kw_676, by decide +kernel, by decide +kernel⟩
theorem vl_L_93 : VL RL 93 yX6_minutes cX6_minutes 5 (some .int) := ⟨kw_688, kw_689, kw_690, kw_2, kw_691, by decide +kernel, by decide +kernel⟩
theorem vl_L_96 : VL RL 96 yX6_quarters cX6_quarters 5 (some .int) := ⟨kw_704, kw_705, kw_706, kw_2, kw_707, by decide +kernel, by decide +kernel⟩
theorem vl_L_99 : VL RL 99 yX6_premiumPay cX6_premiumPay 2 (some .int) := ⟨kw_719, kw_720, kw_721, kw_2, kw_722, by decide +kernel, by decide +kernel⟩
theorem vl_L_102 : VL RL 102 yX6_pay cX6_pay 3 (some .int) := ⟨kw_730, kw_731, kw_732, kw_2, kw_733, by decide +kernel, by decide +kernel⟩
theorem vl_L_114 : VL RL 114 yX7_hire cX7_hire 2 (some .int) := ⟨kw_139, kw_140, kw_141, kw_5, kw_142, by decide +kernel, by decide +kernel⟩
theorem vl_L_115 : VL RL 115 yX7_thrown cX7_thrown 1 (some .int) := ⟨kw_148, kw_149, kw_150, kw_5, kw_151, by decide +kernel, by decide +kernel⟩
theorem vl_L_122 : VL RL 122 yX7_setWage cX7_setWage 4 (some .int) := ⟨kw_166, kw_167, kw_168, kw_5, kw_169, by decide +kernel, by decide +kernel⟩
theorem vl_L_126 : VL RL 126 yX7_punch cX7_punch 6 (some .int) := ⟨kw_206, kw_207, kw_208, kw_5, kw_209, by decide +kernel, by decide +kernel⟩
theorem vl_L_129 : VL RL 129 yX7_removePunch cX7_removePunch 6 (some .boolean) := ⟨kw_232, kw_233, kw_234, kw_5, kw_235, by decide +kernel, by decide +kernel⟩
theorem vl_L_133 : VL RL 133 yX7_enter cX7_enter 4 (some .int) := ⟨kw_252, kw_253, kw_254, kw_5, kw_255, by decide +kernel, by decide +kernel⟩
theorem vl_L_136 : VL RL 136 yX7_removeEntry cX7_removeEntry 3 (some .int) := ⟨kw_273, kw_274, kw_275, kw_5, kw_276, by decide +kernel, by decide +kernel⟩
theorem vl_L_139 : VL RL 139 yX7_enterBreak cX7_enterBreak 4 (some .int) := ⟨kw_288, kw_289, kw_290, kw_5, kw_291, by decide +kernel, by decide +kernel⟩
theorem vl_L_142 : VL RL 142 yX7_removeBreak cX7_removeBreak 3 (some .int) := ⟨kw_299, kw_300, kw_301, kw_5, kw_302, by decide +kernel, by decide +kernel⟩
theorem vl_L_146 : VL RL 146 yX7_addPremium cX7_addPremium 6 (some .int) := ⟨kw_317, kw_318, kw_319, kw_5, kw_320, by decide +kernel, by decide +kernel⟩
theorem vl_L_149 : VL RL 149 yX7_removePremium cX7_removePremium 3 (some .int) := ⟨kw_329, kw_330, kw_331, kw_5, kw_332, by decide +kernel, by decide +kernel⟩
theorem vl_L_152 : VL RL 152 yX7_closeWeek cX7_closeWeek 3 (some .int) := ⟨kw_471, kw_472, kw_473, kw_5, kw_474, by decide +kernel, by decide +kernel⟩
theorem vl_L_153 : VL RL 153 yX6_employees cX6_employees 1 (some .int) := ⟨kw_524, kw_525, kw_526, kw_2, kw_527, by decide +kernel, by decide +kernel⟩
theorem vl_L_156 : VL RL 156 yX7_employees cX7_employees 1 (some .int) := ⟨kw_528, kw_529, kw_530, kw_5, kw_531, by decide +kernel, by decide +kernel⟩
theorem vl_L_159 : VL RL 159 yX7_closedWeeks cX7_closedWeeks 2 (some .int) := ⟨kw_539, kw_540, kw_541, kw_5, kw_542, by decide +kernel, by decide +kernel⟩
theorem vl_L_162 : VL RL 162 yX7_earned cX7_earned 2 (some .long) := ⟨kw_554, kw_555, kw_556, kw_5, kw_557, by decide +kernel, by decide +kernel⟩
theorem vl_L_165 : VL RL 165 yX7_shifts cX7_shifts 2 (some .int) := ⟨kw_566, kw_567, kw_568, kw_5, kw_569, by decide +kernel, by decide +kernel⟩
theorem vl_L_168 : VL RL 168 yX7_shiftBegin cX7_shiftBegin 4 (some .int) := ⟨kw_581, kw_582, kw_583, kw_5, kw_584, by decide +kernel, by decide +kernel⟩
theorem vl_L_171 : VL RL 171 yX7_shiftEnd cX7_shiftEnd 4 (some .int) := ⟨kw_592, kw_593, kw_594, kw_5, kw_595, by decide +kernel, by decide +kernel⟩
theorem vl_L_174 : VL RL 174 yX7_repairedShifts cX7_repairedShifts 2 (some .int) := ⟨kw_603, kw_604, kw_605, kw_5, kw_606, by decide +kernel, by decide +kernel⟩
theorem vl_L_177 : VL RL 177 yX7_coverage cX7_coverage 4 (some .int) := ⟨kw_617, kw_618, kw_619, kw_5, kw_620, by decide +kernel, by decide +kernel⟩
theorem vl_L_180 : VL RL 180 yX7_overlap cX7_overlap 2 (some .int) := ⟨kw_629, kw_630, kw_631, kw_5, kw_632, by decide +kernel, by decide +kernel⟩
theorem vl_L_183 : VL RL 183 yX7_workedOn cX7_workedOn 4 (some .int) := ⟨kw_641, kw_642, kw_643, kw_5, kw_644, by decide +kernel, by decide +kernel⟩
theorem vl_L_186 : VL RL 186 yX7_stretches cX7_stretches 2 (some .int) := ⟨kw_652, kw_653, kw_654, kw_5, kw_655, by decide +kernel, by decide +kernel⟩
theorem vl_L_189 : VL RL 189 yX7_longestStretch cX7_longestStretch 2 (some .int) := ⟨kw_666, kw_667, kw_668, kw_5, kw_669, by decide +kernel, by decide +kernel⟩
theorem vl_L_192 : VL RL 192 yX7_category cX7_category 4 (some .int) := ⟨kw_681, kw_682, kw_683, kw_5, kw_684, by decide +kernel, by decide +kernel⟩
theorem vl_L_195 : VL RL 195 yX7_minutes cX7_minutes 4 (some .int) := ⟨kw_693, kw_694, kw_695, kw_5, kw_696, by decide +kernel, by decide +kernel⟩
theorem vl_L_198 : VL RL 198 yX7_quarters cX7_quarters 4 (some .int) := ⟨kw_712, kw_713, kw_714, kw_5, kw_715, by decide +kernel, by decide +kernel⟩
theorem vl_L_201 : VL RL 201 yX7_premiumPay cX7_premiumPay 2 (some .int) := ⟨kw_723, kw_724, kw_725, kw_5, kw_726, by decide +kernel, by decide +kernel⟩
theorem vl_L_204 : VL RL 204 yX7_pay cX7_pay 2 (some .int) := ⟨kw_734, kw_735, kw_736, kw_5, kw_737, by decide +kernel, by decide +kernel⟩
theorem vl_X0_37 : VL RX0 37 yX4_clear cX4_clear 1 none := ⟨kw_470, kw_353, kw_354, kw_32, kw_355, by decide +kernel, by decide +kernel⟩
theorem vl_X1_30 : VL RX1 30 yX5_read cX5_read 2 none := ⟨kw_344, kw_345, kw_346, kw_48, kw_347, by decide +kernel, by decide +kernel⟩
theorem vl_X1_37 : VL RX1 37 yX1_takeOffAutomaticBreaks cX1_takeOffAutomaticBreaks 5 none := ⟨kw_399, kw_400, kw_401, kw_22, kw_402, by decide +kernel, by decide +kernel⟩
theorem vl_X1_41 : VL RX1 41 yX4_clear cX4_clear 1 none := ⟨kw_404, kw_353, kw_354, kw_32, kw_355, by decide +kernel, by decide +kernel⟩
theorem vl_X1_44 : VL RX1 44 yX1_isFull cX1_isFull 3 (some .boolean) := ⟨kw_408, kw_409, kw_410, kw_22, kw_411, by decide +kernel, by decide +kernel⟩
theorem vl_X1_48 : VL RX1 48 yX1_addPartsOfDay cX1_addPartsOfDay 8 none := ⟨kw_416, kw_417, kw_418, kw_22, kw_419, by decide +kernel, by decide +kernel⟩
theorem mn_X1_52 : Cond.methodLinkNest RX1 52 yX6_minutesOnDay "Timesheets" ∈ lw_tbl := tb_in_3 (List.mem_of_getElem? (l := tables_1_3) (i := 28) rfl)
theorem vl_X1_56 : VL RX1 56 yX4_size cX4_size 1 (some .int) := ⟨kw_405, kw_185, kw_186, kw_32, kw_187, by decide +kernel, by decide +kernel⟩
theorem vl_X1_60 : VL RX1 60 yX4_get cX4_get 4 (some .int) := ⟨kw_406, kw_192, kw_193, kw_32, kw_194, by decide +kernel, by decide +kernel⟩
theorem vl_X1_69 : VL RX1 69 yX4_addSpan cX4_addSpan 4 none := ⟨kw_407, kw_247, kw_248, kw_32, kw_249, by decide +kernel, by decide +kernel⟩
theorem vl_X1_75 : VL RX1 75 yX1_addParts cX1_addParts 12 none := ⟨kw_421, kw_422, kw_423, kw_22, kw_424, by decide +kernel, by decide +kernel⟩
theorem sl_X1_79 : SL RX1 79 yX1_untilLimit cX1_untilLimit 3 (some .int) := ⟨kw_425, kw_426, kw_22, kw_427, by decide +kernel, by decide +kernel, rfl⟩
theorem sl_X1_82 : SL RX1 82 yX1_categoryFor cX1_categoryFor 3 (some .int) := ⟨kw_428, kw_429, kw_22, kw_430, by decide +kernel, by decide +kernel, rfl⟩
theorem vl_X1_86 : VL RX1 86 yX4_set cX4_set 5 none := ⟨kw_431, kw_203, kw_204, kw_32, kw_205, by decide +kernel, by decide +kernel⟩
theorem vl_X1_90 : VL RX1 90 yX1_minutesOf cX1_minutesOf 5 (some .int) := ⟨kw_440, kw_441, kw_442, kw_22, kw_443, by decide +kernel, by decide +kernel⟩
theorem vl_X1_93 : VL RX1 93 yX1_quartersOfWeek cX1_quartersOfWeek 4 (some .int) := ⟨kw_436, kw_437, kw_438, kw_22, kw_439, by decide +kernel, by decide +kernel⟩
theorem vl_X2_20 : VL RX2 20 yX4_size cX4_size 1 (some .int) := ⟨kw_314, kw_185, kw_186, kw_32, kw_187, by decide +kernel, by decide +kernel⟩
theorem vl_X2_24 : VL RX2 24 yX4_insert cX4_insert 3 none := ⟨kw_315, kw_199, kw_200, kw_32, kw_201, by decide +kernel, by decide +kernel⟩
theorem vl_X2_28 : VL RX2 28 yX4_set cX4_set 5 none := ⟨kw_316, kw_203, kw_204, kw_32, kw_205, by decide +kernel, by decide +kernel⟩
theorem vl_X2_32 : VL RX2 32 yX4_get cX4_get 4 (some .int) := ⟨kw_448, kw_192, kw_193, kw_32, kw_194, by decide +kernel, by decide +kernel⟩
theorem vl_X2_36 : VL RX2 36 yX2_sumOver cX2_sumOver 8 (some .int) := ⟨kw_449, kw_450, kw_451, kw_18, kw_452, by decide +kernel, by decide +kernel⟩
theorem vl_X2_39 : VL RX2 39 yX2_nextChange cX2_nextChange 6 (some .int) := ⟨kw_454, kw_455, kw_456, kw_18, kw_457, by decide +kernel, by decide +kernel⟩
theorem vl_X2_48 : VL RX2 48 yX2_greatestRate cX2_greatestRate 6 (some .int) := ⟨kw_458, kw_459, kw_460, kw_18, kw_461, by decide +kernel, by decide +kernel⟩
theorem sl_X2_51 : SL RX2 51 yX2_isBetween cX2_isBetween 3 (some .boolean) := ⟨kw_463, kw_464, kw_18, kw_465, by decide +kernel, by decide +kernel, rfl⟩
theorem vl_X3_24 : VL RX3 24 yX4_clear cX4_clear 1 none := ⟨kw_352, kw_353, kw_354, kw_32, kw_355, by decide +kernel, by decide +kernel⟩
theorem vl_X3_27 : VL RX3 27 yX4_size cX4_size 1 (some .int) := ⟨kw_356, kw_185, kw_186, kw_32, kw_187, by decide +kernel, by decide +kernel⟩
theorem sl_X3_31 : SL RX3 31 yX3_isIn cX3_isIn 2 (some .boolean) := ⟨kw_357, kw_358, kw_59, kw_359, by decide +kernel, by decide +kernel, rfl⟩
theorem vl_X3_35 : VL RX3 35 yX3_addFromIn cX3_addFromIn 6 none := ⟨kw_361, kw_362, kw_363, kw_59, kw_364, by decide +kernel, by decide +kernel⟩
theorem vl_X3_39 : VL RX3 39 yX3_addFromLoneOut cX3_addFromLoneOut 5 none := ⟨kw_370, kw_371, kw_372, kw_59, kw_373, by decide +kernel, by decide +kernel⟩
theorem vl_X3_42 : VL RX3 42 yX4_get cX4_get 4 (some .int) := ⟨kw_360, kw_192, kw_193, kw_32, kw_194, by decide +kernel, by decide +kernel⟩
theorem vl_X3_51 : VL RX3 51 yX4_addSpan cX4_addSpan 4 none := ⟨kw_369, kw_247, kw_248, kw_32, kw_249, by decide +kernel, by decide +kernel⟩
theorem vl_X4_22 : VL RX4 22 yX4_insert cX4_insert 3 none := ⟨kw_250, kw_199, kw_200, kw_32, kw_201, by decide +kernel, by decide +kernel⟩
theorem vl_X4_26 : VL RX4 26 yX4_set cX4_set 5 none := ⟨kw_251, kw_203, kw_204, kw_32, kw_205, by decide +kernel, by decide +kernel⟩
theorem vl_X5_39 : VL RX5 39 yX3_read cX3_read 3 none := ⟨kw_348, kw_349, kw_350, kw_59, kw_351, by decide +kernel, by decide +kernel⟩
theorem vl_X5_43 : VL RX5 43 yX4_clear cX4_clear 1 none := ⟨kw_377, kw_353, kw_354, kw_32, kw_355, by decide +kernel, by decide +kernel⟩
theorem vl_X5_49 : VL RX5 49 yX5_addEvents cX5_addEvents 5 none := ⟨kw_378, kw_379, kw_380, kw_48, kw_381, by decide +kernel, by decide +kernel⟩
theorem vl_X5_59 : VL RX5 59 yX5_goThroughEvents cX5_goThroughEvents 6 none := ⟨kw_390, kw_391, kw_392, kw_48, kw_393, by decide +kernel, by decide +kernel⟩
theorem vl_X5_62 : VL RX5 62 yX4_size cX4_size 1 (some .int) := ⟨kw_382, kw_185, kw_186, kw_32, kw_187, by decide +kernel, by decide +kernel⟩
theorem vl_X5_66 : VL RX5 66 yX4_get cX4_get 4 (some .int) := ⟨kw_383, kw_192, kw_193, kw_32, kw_194, by decide +kernel, by decide +kernel⟩
theorem vl_X5_70 : VL RX5 70 yX5_addEvent cX5_addEvent 6 none := ⟨kw_384, kw_385, kw_386, kw_48, kw_387, by decide +kernel, by decide +kernel⟩
theorem vl_X5_74 : VL RX5 74 yX4_insert cX4_insert 3 none := ⟨kw_388, kw_199, kw_200, kw_32, kw_201, by decide +kernel, by decide +kernel⟩
theorem vl_X5_78 : VL RX5 78 yX4_set cX4_set 5 none := ⟨kw_389, kw_203, kw_204, kw_32, kw_205, by decide +kernel, by decide +kernel⟩
theorem vl_X5_81 : VL RX5 81 yX5_addWorked cX5_addWorked 4 none := ⟨kw_394, kw_395, kw_396, kw_48, kw_397, by decide +kernel, by decide +kernel⟩
theorem vl_X5_84 : VL RX5 84 yX4_addSpan cX4_addSpan 4 none := ⟨kw_398, kw_247, kw_248, kw_32, kw_249, by decide +kernel, by decide +kernel⟩
theorem sl_X6_46 : SL RX6 46 yX6_requireWithin cX6_requireWithin 3 none := ⟨kw_122, kw_123, kw_2, kw_124, by decide +kernel, by decide +kernel, rfl⟩
theorem vl_X6_60 : VL RX6 60 yX6_find cX6_find 3 (some (.object "Timesheets$Employee")) := ⟨kw_160, kw_161, kw_162, kw_2, kw_163, by decide +kernel, by decide +kernel⟩
theorem sl_X6_71 : SL RX6 71 yX6_requireRoom cX6_requireRoom 2 none := ⟨kw_181, kw_182, kw_2, kw_183, by decide +kernel, by decide +kernel, rfl⟩
theorem sl_X6_75 : SL RX6 75 yX6_placeOfPunch cX6_placeOfPunch 4 (some .int) := ⟨kw_188, kw_189, kw_2, kw_190, by decide +kernel, by decide +kernel, rfl⟩
theorem sl_X6_79 : SL RX6 79 yX6_isPunchAt cX6_isPunchAt 3 (some .boolean) := ⟨kw_195, kw_196, kw_2, kw_197, by decide +kernel, by decide +kernel, rfl⟩
theorem vl_X6_85 : VL RX6 85 yX4_insert cX4_insert 3 none := ⟨kw_198, kw_199, kw_200, kw_32, kw_201, by decide +kernel, by decide +kernel⟩
theorem vl_X6_90 : VL RX6 90 yX4_set cX4_set 5 none := ⟨kw_202, kw_203, kw_204, kw_32, kw_205, by decide +kernel, by decide +kernel⟩
theorem vl_X6_93 : VL RX6 93 yX4_size cX4_size 1 (some .int) := ⟨kw_184, kw_185, kw_186, kw_32, kw_187, by decide +kernel, by decide +kernel⟩
theorem vl_X6_102 : VL RX6 102 yX4_get cX4_get 4 (some .int) := ⟨kw_191, kw_192, kw_193, kw_32, kw_194, by decide +kernel, by decide +kernel⟩
theorem vl_X6_106 : VL RX6 106 yX4_remove cX4_remove 3 none := ⟨kw_228, kw_229, kw_230, kw_32, kw_231, by decide +kernel, by decide +kernel⟩
theorem sl_X6_112 : SL RX6 112 yX6_addByHand cX6_addByHand 4 (some .int) := ⟨kw_243, kw_244, kw_2, kw_245, by decide +kernel, by decide +kernel, rfl⟩
theorem sl_X6_116 : SL RX6 116 yX6_removeNumbered cX6_removeNumbered 2 (some .int) := ⟨kw_267, kw_268, kw_2, kw_269, by decide +kernel, by decide +kernel, rfl⟩
theorem vl_X6_125 : VL RX6 125 yX2_add cX2_add 6 (some .int) := ⟨kw_310, kw_311, kw_312, kw_18, kw_313, by decide +kernel, by decide +kernel⟩
theorem vl_X6_131 : VL RX6 131 yX1_read cX1_read 5 none := ⟨kw_340, kw_341, kw_342, kw_22, kw_343, by decide +kernel, by decide +kernel⟩
theorem vl_X6_135 : VL RX6 135 yX1_basicPay cX1_basicPay 3 (some .int) := ⟨kw_432, kw_433, kw_434, kw_22, kw_435, by decide +kernel, by decide +kernel⟩
theorem vl_X6_142 : VL RX6 142 yX2_payFor cX2_payFor 4 (some .int) := ⟨kw_444, kw_445, kw_446, kw_18, kw_447, by decide +kernel, by decide +kernel⟩
theorem vl_X6_146 : VL RX6 146 yX0_beginNextWeek cX0_beginNextWeek 2 none := ⟨kw_466, kw_467, kw_468, kw_121, kw_469, by decide +kernel, by decide +kernel⟩
theorem vl_X6_156 : VL RX6 156 yX3_read cX3_read 3 none := ⟨kw_565, kw_349, kw_350, kw_59, kw_351, by decide +kernel, by decide +kernel⟩
theorem sl_X6_164 : SL RX6 164 yX6_requireNumber cX6_requireNumber 2 none := ⟨kw_270, kw_271, kw_2, kw_272, by decide +kernel, by decide +kernel, rfl⟩
theorem sl_X6_170 : SL RX6 170 yX6_countContaining cX6_countContaining 4 (some .int) := ⟨kw_614, kw_615, kw_2, kw_616, by decide +kernel, by decide +kernel, rfl⟩
theorem vl_X6_173 : VL RX6 173 yX5_read cX5_read 2 none := ⟨kw_628, kw_345, kw_346, kw_48, kw_347, by decide +kernel, by decide +kernel⟩
theorem sl_X6_180 : SL RX6 180 yX6_minutesOnDay cX6_minutesOnDay 6 (some .int) := ⟨kw_640, kw_412, kw_2, kw_413, by decide +kernel, by decide +kernel, rfl⟩
theorem sl_X6_183 : SL RX6 183 yX6_longest cX6_longest 3 (some .int) := ⟨kw_663, kw_664, kw_2, kw_665, by decide +kernel, by decide +kernel, rfl⟩
theorem vl_X6_186 : VL RX6 186 yX1_categoryAt cX1_categoryAt 4 (some .int) := ⟨kw_677, kw_678, kw_679, kw_22, kw_680, by decide +kernel, by decide +kernel⟩
theorem vl_X6_189 : VL RX6 189 yX1_minutesOf cX1_minutesOf 5 (some .int) := ⟨kw_692, kw_441, kw_442, kw_22, kw_443, by decide +kernel, by decide +kernel⟩
theorem vl_X6_192 : VL RX6 192 yX1_quartersOf cX1_quartersOf 9 (some .int) := ⟨kw_708, kw_709, kw_710, kw_22, kw_711, by decide +kernel, by decide +kernel⟩
theorem vl_X6_209 : VL RX6 209 yX4_addSpan cX4_addSpan 4 none := ⟨kw_246, kw_247, kw_248, kw_32, kw_249, by decide +kernel, by decide +kernel⟩
theorem sl_X7_97 : SL RX7 97 yX7_in cX7_in 3 (some .boolean) := ⟨kw_145, kw_146, kw_5, kw_147, by decide +kernel, by decide +kernel, rfl⟩
theorem vl_X7_102 : VL RX7 102 yX7_isOne cX7_isOne 2 (some .boolean) := ⟨kw_170, kw_171, kw_172, kw_5, kw_173, by decide +kernel, by decide +kernel⟩
theorem vl_X7_106 : VL RX7 106 yX7_placeOf cX7_placeOf 4 (some .int) := ⟨kw_214, kw_215, kw_216, kw_5, kw_217, by decide +kernel, by decide +kernel⟩
theorem vl_X7_110 : VL RX7 110 yX7_hasPunch cX7_hasPunch 4 (some .boolean) := ⟨kw_210, kw_211, kw_212, kw_5, kw_213, by decide +kernel, by decide +kernel⟩
theorem vl_X7_114 : VL RX7 114 yX7_puts cX7_puts 7 (some .int) := ⟨kw_256, kw_257, kw_258, kw_5, kw_259, by decide +kernel, by decide +kernel⟩
theorem vl_X7_118 : VL RX7 118 yX7_takes cX7_takes 7 (some .int) := ⟨kw_277, kw_278, kw_279, kw_5, kw_280, by decide +kernel, by decide +kernel⟩
theorem vl_X7_131 : VL RX7 131 yX7_makes cX7_makes 4 none := ⟨kw_489, kw_490, kw_491, kw_5, kw_492, by decide +kernel, by decide +kernel⟩
theorem vl_X7_135 : VL RX7 135 yX7_findsShifts cX7_findsShifts 9 none := ⟨kw_484, kw_485, kw_486, kw_5, kw_487, by decide +kernel, by decide +kernel⟩
theorem vl_X7_139 : VL RX7 139 yX7_marks cX7_marks 4 none := ⟨kw_493, kw_494, kw_495, kw_5, kw_496, by decide +kernel, by decide +kernel⟩
theorem vl_X7_143 : VL RX7 143 yX7_findsPaid cX7_findsPaid 5 none := ⟨kw_497, kw_498, kw_499, kw_5, kw_500, by decide +kernel, by decide +kernel⟩
theorem vl_X7_146 : VL RX7 146 yX7_findsKinds cX7_findsKinds 7 none := ⟨kw_504, kw_505, kw_506, kw_5, kw_507, by decide +kernel, by decide +kernel⟩
theorem vl_X7_149 : VL RX7 149 yX7_findsShares cX7_findsShares 5 none := ⟨kw_508, kw_509, kw_510, kw_5, kw_511, by decide +kernel, by decide +kernel⟩
theorem vl_X7_161 : VL RX7 161 yX7_ahead cX7_ahead 7 (some .int) := ⟨kw_512, kw_513, kw_514, kw_5, kw_515, by decide +kernel, by decide +kernel⟩
theorem vl_X7_164 : VL RX7 164 yX7_applies cX7_applies 7 (some .boolean) := ⟨kw_520, kw_521, kw_522, kw_5, kw_523, by decide +kernel, by decide +kernel⟩
theorem vl_X7_167 : VL RX7 167 yX7_lays cX7_lays 3 none := ⟨kw_479, kw_480, kw_481, kw_5, kw_482, by decide +kernel, by decide +kernel⟩
theorem vl_X7_170 : VL RX7 170 yX7_extra cX7_extra 5 (some .int) := ⟨kw_516, kw_517, kw_518, kw_5, kw_519, by decide +kernel, by decide +kernel⟩
theorem vl_X7_174 : VL RX7 174 yX7_payOf cX7_payOf 3 (some .int) := ⟨kw_475, kw_476, kw_477, kw_5, kw_478, by decide +kernel, by decide +kernel⟩
theorem vl_X7_178 : VL RX7 178 yX7_fails cX7_fails 2 (some .int) := ⟨kw_543, kw_544, kw_545, kw_5, kw_546, by decide +kernel, by decide +kernel⟩
theorem vl_X7_181 : VL RX7 181 yX7_looks cX7_looks 2 (some .boolean) := ⟨kw_570, kw_571, kw_572, kw_5, kw_573, by decide +kernel, by decide +kernel⟩
theorem vl_X7_184 : VL RX7 184 yX7_told cX7_told 6 (some .int) := ⟨kw_697, kw_698, kw_699, kw_5, kw_700, by decide +kernel, by decide +kernel⟩
theorem pd_yX0_beginNextWeek : (parseMethodDescriptor yX0_beginNextWeek.desc).map (fun d => d.parameters.length) = some 1 := by decide +kernel
theorem pd_yX1_addParts : (parseMethodDescriptor yX1_addParts.desc).map (fun d => d.parameters.length) = some 5 := by decide +kernel
theorem pd_yX1_addPartsOfDay : (parseMethodDescriptor yX1_addPartsOfDay.desc).map (fun d => d.parameters.length) = some 3 := by decide +kernel
theorem pd_yX1_basicPay : (parseMethodDescriptor yX1_basicPay.desc).map (fun d => d.parameters.length) = some 1 := by decide +kernel
theorem pd_yX1_categoryAt : (parseMethodDescriptor yX1_categoryAt.desc).map (fun d => d.parameters.length) = some 1 := by decide +kernel
theorem pd_yX1_categoryFor : (parseMethodDescriptor yX1_categoryFor.desc).map (fun d => d.parameters.length) = some 3 := by decide +kernel
theorem pd_yX1_isFull : (parseMethodDescriptor yX1_isFull.desc).map (fun d => d.parameters.length) = some 0 := by decide +kernel
theorem pd_yX1_minutesOf : (parseMethodDescriptor yX1_minutesOf.desc).map (fun d => d.parameters.length) = some 2 := by decide +kernel
theorem pd_yX1_quartersOf : (parseMethodDescriptor yX1_quartersOf.desc).map (fun d => d.parameters.length) = some 2 := by decide +kernel
theorem pd_yX1_quartersOfWeek : (parseMethodDescriptor yX1_quartersOfWeek.desc).map (fun d => d.parameters.length) = some 1 := by decide +kernel
theorem pd_yX1_read : (parseMethodDescriptor yX1_read.desc).map (fun d => d.parameters.length) = some 1 := by decide +kernel
theorem pd_yX1_takeOffAutomaticBreaks : (parseMethodDescriptor yX1_takeOffAutomaticBreaks.desc).map (fun d => d.parameters.length) = some 1 := by decide +kernel
theorem pd_yX1_untilLimit : (parseMethodDescriptor yX1_untilLimit.desc).map (fun d => d.parameters.length) = some 2 := by decide +kernel
theorem pd_yX2_add : (parseMethodDescriptor yX2_add.desc).map (fun d => d.parameters.length) = some 4 := by decide +kernel
theorem pd_yX2_greatestRate : (parseMethodDescriptor yX2_greatestRate.desc).map (fun d => d.parameters.length) = some 2 := by decide +kernel
theorem pd_yX2_isBetween : (parseMethodDescriptor yX2_isBetween.desc).map (fun d => d.parameters.length) = some 3 := by decide +kernel
theorem pd_yX2_nextChange : (parseMethodDescriptor yX2_nextChange.desc).map (fun d => d.parameters.length) = some 1 := by decide +kernel
theorem pd_yX2_payFor : (parseMethodDescriptor yX2_payFor.desc).map (fun d => d.parameters.length) = some 1 := by decide +kernel
theorem pd_yX2_sumOver : (parseMethodDescriptor yX2_sumOver.desc).map (fun d => d.parameters.length) = some 2 := by decide +kernel
theorem pd_yX3_addFromIn : (parseMethodDescriptor yX3_addFromIn.desc).map (fun d => d.parameters.length) = some 2 := by decide +kernel
theorem pd_yX3_addFromLoneOut : (parseMethodDescriptor yX3_addFromLoneOut.desc).map (fun d => d.parameters.length) = some 2 := by decide +kernel
theorem pd_yX3_isIn : (parseMethodDescriptor yX3_isIn.desc).map (fun d => d.parameters.length) = some 2 := by decide +kernel
theorem pd_yX3_read : (parseMethodDescriptor yX3_read.desc).map (fun d => d.parameters.length) = some 1 := by decide +kernel
theorem pd_yX4_addSpan : (parseMethodDescriptor yX4_addSpan.desc).map (fun d => d.parameters.length) = some 2 := by decide +kernel
theorem pd_yX4_clear : (parseMethodDescriptor yX4_clear.desc).map (fun d => d.parameters.length) = some 0 := by decide +kernel
theorem pd_yX4_get : (parseMethodDescriptor yX4_get.desc).map (fun d => d.parameters.length) = some 2 := by decide +kernel
theorem pd_yX4_insert : (parseMethodDescriptor yX4_insert.desc).map (fun d => d.parameters.length) = some 1 := by decide +kernel
theorem pd_yX4_remove : (parseMethodDescriptor yX4_remove.desc).map (fun d => d.parameters.length) = some 1 := by decide +kernel
theorem pd_yX4_set : (parseMethodDescriptor yX4_set.desc).map (fun d => d.parameters.length) = some 3 := by decide +kernel
theorem pd_yX4_size : (parseMethodDescriptor yX4_size.desc).map (fun d => d.parameters.length) = some 0 := by decide +kernel
theorem pd_yX5_addEvent : (parseMethodDescriptor yX5_addEvent.desc).map (fun d => d.parameters.length) = some 3 := by decide +kernel
theorem pd_yX5_addEvents : (parseMethodDescriptor yX5_addEvents.desc).map (fun d => d.parameters.length) = some 3 := by decide +kernel
theorem pd_yX5_addWorked : (parseMethodDescriptor yX5_addWorked.desc).map (fun d => d.parameters.length) = some 2 := by decide +kernel
theorem pd_yX5_goThroughEvents : (parseMethodDescriptor yX5_goThroughEvents.desc).map (fun d => d.parameters.length) = some 0 := by decide +kernel
theorem pd_yX5_read : (parseMethodDescriptor yX5_read.desc).map (fun d => d.parameters.length) = some 1 := by decide +kernel
theorem pd_yX6_addByHand : (parseMethodDescriptor yX6_addByHand.desc).map (fun d => d.parameters.length) = some 4 := by decide +kernel
theorem pd_yX6_addPremium : (parseMethodDescriptor yX6_addPremium.desc).map (fun d => d.parameters.length) = some 4 := by decide +kernel
theorem pd_yX6_category : (parseMethodDescriptor yX6_category.desc).map (fun d => d.parameters.length) = some 2 := by decide +kernel
theorem pd_yX6_closeWeek : (parseMethodDescriptor yX6_closeWeek.desc).map (fun d => d.parameters.length) = some 1 := by decide +kernel
theorem pd_yX6_closedWeeks : (parseMethodDescriptor yX6_closedWeeks.desc).map (fun d => d.parameters.length) = some 1 := by decide +kernel
theorem pd_yX6_countContaining : (parseMethodDescriptor yX6_countContaining.desc).map (fun d => d.parameters.length) = some 2 := by decide +kernel
theorem pd_yX6_coverage : (parseMethodDescriptor yX6_coverage.desc).map (fun d => d.parameters.length) = some 2 := by decide +kernel
theorem pd_yX6_earned : (parseMethodDescriptor yX6_earned.desc).map (fun d => d.parameters.length) = some 1 := by decide +kernel
theorem pd_yX6_employees : (parseMethodDescriptor yX6_employees.desc).map (fun d => d.parameters.length) = some 0 := by decide +kernel
theorem pd_yX6_enter : (parseMethodDescriptor yX6_enter.desc).map (fun d => d.parameters.length) = some 3 := by decide +kernel
theorem pd_yX6_enterBreak : (parseMethodDescriptor yX6_enterBreak.desc).map (fun d => d.parameters.length) = some 3 := by decide +kernel
theorem pd_yX6_find : (parseMethodDescriptor yX6_find.desc).map (fun d => d.parameters.length) = some 1 := by decide +kernel
theorem pd_yX6_hire : (parseMethodDescriptor yX6_hire.desc).map (fun d => d.parameters.length) = some 1 := by decide +kernel
theorem pd_yX6_isPunchAt : (parseMethodDescriptor yX6_isPunchAt.desc).map (fun d => d.parameters.length) = some 3 := by decide +kernel
theorem pd_yX6_longest : (parseMethodDescriptor yX6_longest.desc).map (fun d => d.parameters.length) = some 1 := by decide +kernel
theorem pd_yX6_longestStretch : (parseMethodDescriptor yX6_longestStretch.desc).map (fun d => d.parameters.length) = some 1 := by decide +kernel
theorem pd_yX6_minutes : (parseMethodDescriptor yX6_minutes.desc).map (fun d => d.parameters.length) = some 3 := by decide +kernel
theorem pd_yX6_minutesOnDay : (parseMethodDescriptor yX6_minutesOnDay.desc).map (fun d => d.parameters.length) = some 2 := by decide +kernel
theorem pd_yX6_overlap : (parseMethodDescriptor yX6_overlap.desc).map (fun d => d.parameters.length) = some 1 := by decide +kernel
theorem pd_yX6_pay : (parseMethodDescriptor yX6_pay.desc).map (fun d => d.parameters.length) = some 1 := by decide +kernel
theorem pd_yX6_placeOfPunch : (parseMethodDescriptor yX6_placeOfPunch.desc).map (fun d => d.parameters.length) = some 2 := by decide +kernel
theorem pd_yX6_premiumPay : (parseMethodDescriptor yX6_premiumPay.desc).map (fun d => d.parameters.length) = some 1 := by decide +kernel
theorem pd_yX6_punch : (parseMethodDescriptor yX6_punch.desc).map (fun d => d.parameters.length) = some 3 := by decide +kernel
theorem pd_yX6_quarters : (parseMethodDescriptor yX6_quarters.desc).map (fun d => d.parameters.length) = some 3 := by decide +kernel
theorem pd_yX6_removeBreak : (parseMethodDescriptor yX6_removeBreak.desc).map (fun d => d.parameters.length) = some 2 := by decide +kernel
theorem pd_yX6_removeEntry : (parseMethodDescriptor yX6_removeEntry.desc).map (fun d => d.parameters.length) = some 2 := by decide +kernel
theorem pd_yX6_removeNumbered : (parseMethodDescriptor yX6_removeNumbered.desc).map (fun d => d.parameters.length) = some 2 := by decide +kernel
theorem pd_yX6_removePremium : (parseMethodDescriptor yX6_removePremium.desc).map (fun d => d.parameters.length) = some 1 := by decide +kernel
theorem pd_yX6_removePunch : (parseMethodDescriptor yX6_removePunch.desc).map (fun d => d.parameters.length) = some 2 := by decide +kernel
theorem pd_yX6_repairedShifts : (parseMethodDescriptor yX6_repairedShifts.desc).map (fun d => d.parameters.length) = some 1 := by decide +kernel
theorem pd_yX6_requireNumber : (parseMethodDescriptor yX6_requireNumber.desc).map (fun d => d.parameters.length) = some 2 := by decide +kernel
theorem pd_yX6_requireRoom : (parseMethodDescriptor yX6_requireRoom.desc).map (fun d => d.parameters.length) = some 2 := by decide +kernel
theorem pd_yX6_requireWithin : (parseMethodDescriptor yX6_requireWithin.desc).map (fun d => d.parameters.length) = some 3 := by decide +kernel
theorem pd_yX6_setWage : (parseMethodDescriptor yX6_setWage.desc).map (fun d => d.parameters.length) = some 2 := by decide +kernel
theorem pd_yX6_shiftBegin : (parseMethodDescriptor yX6_shiftBegin.desc).map (fun d => d.parameters.length) = some 2 := by decide +kernel
theorem pd_yX6_shiftEnd : (parseMethodDescriptor yX6_shiftEnd.desc).map (fun d => d.parameters.length) = some 2 := by decide +kernel
theorem pd_yX6_shifts : (parseMethodDescriptor yX6_shifts.desc).map (fun d => d.parameters.length) = some 1 := by decide +kernel
theorem pd_yX6_stretches : (parseMethodDescriptor yX6_stretches.desc).map (fun d => d.parameters.length) = some 1 := by decide +kernel
theorem pd_yX6_workedOn : (parseMethodDescriptor yX6_workedOn.desc).map (fun d => d.parameters.length) = some 2 := by decide +kernel
theorem pd_yX7_addPremium : (parseMethodDescriptor yX7_addPremium.desc).map (fun d => d.parameters.length) = some 4 := by decide +kernel
theorem pd_yX7_ahead : (parseMethodDescriptor yX7_ahead.desc).map (fun d => d.parameters.length) = some 2 := by decide +kernel
theorem pd_yX7_applies : (parseMethodDescriptor yX7_applies.desc).map (fun d => d.parameters.length) = some 2 := by decide +kernel
theorem pd_yX7_category : (parseMethodDescriptor yX7_category.desc).map (fun d => d.parameters.length) = some 2 := by decide +kernel
theorem pd_yX7_closeWeek : (parseMethodDescriptor yX7_closeWeek.desc).map (fun d => d.parameters.length) = some 1 := by decide +kernel
theorem pd_yX7_closedWeeks : (parseMethodDescriptor yX7_closedWeeks.desc).map (fun d => d.parameters.length) = some 1 := by decide +kernel
theorem pd_yX7_coverage : (parseMethodDescriptor yX7_coverage.desc).map (fun d => d.parameters.length) = some 2 := by decide +kernel
theorem pd_yX7_earned : (parseMethodDescriptor yX7_earned.desc).map (fun d => d.parameters.length) = some 1 := by decide +kernel
theorem pd_yX7_employees : (parseMethodDescriptor yX7_employees.desc).map (fun d => d.parameters.length) = some 0 := by decide +kernel
theorem pd_yX7_enter : (parseMethodDescriptor yX7_enter.desc).map (fun d => d.parameters.length) = some 3 := by decide +kernel
theorem pd_yX7_enterBreak : (parseMethodDescriptor yX7_enterBreak.desc).map (fun d => d.parameters.length) = some 3 := by decide +kernel
theorem pd_yX7_extra : (parseMethodDescriptor yX7_extra.desc).map (fun d => d.parameters.length) = some 0 := by decide +kernel
theorem pd_yX7_fails : (parseMethodDescriptor yX7_fails.desc).map (fun d => d.parameters.length) = some 1 := by decide +kernel
theorem pd_yX7_findsKinds : (parseMethodDescriptor yX7_findsKinds.desc).map (fun d => d.parameters.length) = some 0 := by decide +kernel
theorem pd_yX7_findsPaid : (parseMethodDescriptor yX7_findsPaid.desc).map (fun d => d.parameters.length) = some 0 := by decide +kernel
theorem pd_yX7_findsShares : (parseMethodDescriptor yX7_findsShares.desc).map (fun d => d.parameters.length) = some 0 := by decide +kernel
theorem pd_yX7_findsShifts : (parseMethodDescriptor yX7_findsShifts.desc).map (fun d => d.parameters.length) = some 1 := by decide +kernel
theorem pd_yX7_hasPunch : (parseMethodDescriptor yX7_hasPunch.desc).map (fun d => d.parameters.length) = some 2 := by decide +kernel
theorem pd_yX7_hire : (parseMethodDescriptor yX7_hire.desc).map (fun d => d.parameters.length) = some 1 := by decide +kernel
theorem pd_yX7_in : (parseMethodDescriptor yX7_in.desc).map (fun d => d.parameters.length) = some 3 := by decide +kernel
theorem pd_yX7_isOne : (parseMethodDescriptor yX7_isOne.desc).map (fun d => d.parameters.length) = some 1 := by decide +kernel
theorem pd_yX7_lays : (parseMethodDescriptor yX7_lays.desc).map (fun d => d.parameters.length) = some 1 := by decide +kernel
theorem pd_yX7_longestStretch : (parseMethodDescriptor yX7_longestStretch.desc).map (fun d => d.parameters.length) = some 1 := by decide +kernel
theorem pd_yX7_looks : (parseMethodDescriptor yX7_looks.desc).map (fun d => d.parameters.length) = some 1 := by decide +kernel
theorem pd_yX7_makes : (parseMethodDescriptor yX7_makes.desc).map (fun d => d.parameters.length) = some 3 := by decide +kernel
theorem pd_yX7_marks : (parseMethodDescriptor yX7_marks.desc).map (fun d => d.parameters.length) = some 3 := by decide +kernel
theorem pd_yX7_minutes : (parseMethodDescriptor yX7_minutes.desc).map (fun d => d.parameters.length) = some 3 := by decide +kernel
theorem pd_yX7_overlap : (parseMethodDescriptor yX7_overlap.desc).map (fun d => d.parameters.length) = some 1 := by decide +kernel
theorem pd_yX7_pay : (parseMethodDescriptor yX7_pay.desc).map (fun d => d.parameters.length) = some 1 := by decide +kernel
theorem pd_yX7_payOf : (parseMethodDescriptor yX7_payOf.desc).map (fun d => d.parameters.length) = some 1 := by decide +kernel
theorem pd_yX7_placeOf : (parseMethodDescriptor yX7_placeOf.desc).map (fun d => d.parameters.length) = some 2 := by decide +kernel
theorem pd_yX7_premiumPay : (parseMethodDescriptor yX7_premiumPay.desc).map (fun d => d.parameters.length) = some 1 := by decide +kernel
theorem pd_yX7_punch : (parseMethodDescriptor yX7_punch.desc).map (fun d => d.parameters.length) = some 3 := by decide +kernel
theorem pd_yX7_puts : (parseMethodDescriptor yX7_puts.desc).map (fun d => d.parameters.length) = some 6 := by decide +kernel
theorem pd_yX7_quarters : (parseMethodDescriptor yX7_quarters.desc).map (fun d => d.parameters.length) = some 3 := by decide +kernel
theorem pd_yX7_removeBreak : (parseMethodDescriptor yX7_removeBreak.desc).map (fun d => d.parameters.length) = some 2 := by decide +kernel
theorem pd_yX7_removeEntry : (parseMethodDescriptor yX7_removeEntry.desc).map (fun d => d.parameters.length) = some 2 := by decide +kernel
theorem pd_yX7_removePremium : (parseMethodDescriptor yX7_removePremium.desc).map (fun d => d.parameters.length) = some 1 := by decide +kernel
theorem pd_yX7_removePunch : (parseMethodDescriptor yX7_removePunch.desc).map (fun d => d.parameters.length) = some 2 := by decide +kernel
theorem pd_yX7_repairedShifts : (parseMethodDescriptor yX7_repairedShifts.desc).map (fun d => d.parameters.length) = some 1 := by decide +kernel
theorem pd_yX7_setWage : (parseMethodDescriptor yX7_setWage.desc).map (fun d => d.parameters.length) = some 2 := by decide +kernel
theorem pd_yX7_shiftBegin : (parseMethodDescriptor yX7_shiftBegin.desc).map (fun d => d.parameters.length) = some 2 := by decide +kernel
theorem pd_yX7_shiftEnd : (parseMethodDescriptor yX7_shiftEnd.desc).map (fun d => d.parameters.length) = some 2 := by decide +kernel
theorem pd_yX7_shifts : (parseMethodDescriptor yX7_shifts.desc).map (fun d => d.parameters.length) = some 1 := by decide +kernel
theorem pd_yX7_stretches : (parseMethodDescriptor yX7_stretches.desc).map (fun d => d.parameters.length) = some 1 := by decide +kernel
theorem pd_yX7_takes : (parseMethodDescriptor yX7_takes.desc).map (fun d => d.parameters.length) = some 5 := by decide +kernel
theorem pd_yX7_thrown : (parseMethodDescriptor yX7_thrown.desc).map (fun d => d.parameters.length) = some 0 := by decide +kernel
theorem pd_yX7_told : (parseMethodDescriptor yX7_told.desc).map (fun d => d.parameters.length) = some 4 := by decide +kernel
theorem pd_yX7_workedOn : (parseMethodDescriptor yX7_workedOn.desc).map (fun d => d.parameters.length) = some 2 := by decide +kernel
theorem arr_2 : arr 2 6 := ⟨by decide, fun _ _ _ _ _ => rfl⟩
theorem arr_3 : arr 3 6 := ⟨by decide, fun _ _ _ _ _ => rfl⟩
theorem arr_5 : arr 5 6 := ⟨by decide, fun _ _ _ _ _ => rfl⟩
theorem arr_6 : arr 6 246 := ⟨by decide, fun _ _ _ _ _ => rfl⟩
theorem arr_8 : arr 8 6 := ⟨by decide, fun _ _ _ _ _ => rfl⟩
theorem arr_9 : arr 9 120 := ⟨by decide, fun _ _ _ _ _ => rfl⟩
theorem arr_10 : arr 10 120 := ⟨by decide, fun _ _ _ _ _ => rfl⟩
theorem arr_11 : arr 11 6 := ⟨by decide, fun _ _ _ _ _ => rfl⟩
theorem arr_12 : arr 12 120 := ⟨by decide, fun _ _ _ _ _ => rfl⟩
theorem arr_13 : arr 13 120 := ⟨by decide, fun _ _ _ _ _ => rfl⟩
theorem arr_14 : arr 14 6 := ⟨by decide, fun _ _ _ _ _ => rfl⟩
theorem arr_15 : arr 15 6 := ⟨by decide, fun _ _ _ _ _ => rfl⟩
theorem arr_16 : arr 16 6 := ⟨by decide, fun _ _ _ _ _ => rfl⟩
theorem arr_17 : arr 17 6 := ⟨by decide, fun _ _ _ _ _ => rfl⟩
theorem arr_18 : arr 18 41 := ⟨by decide, fun _ _ _ _ _ => rfl⟩
theorem arr_19 : arr 19 41 := ⟨by decide, fun _ _ _ _ _ => rfl⟩
theorem arr_20 : arr 20 10081 := ⟨by decide, fun _ _ _ _ _ => rfl⟩
theorem arr_21 : arr 21 10081 := ⟨by decide, fun _ _ _ _ _ => rfl⟩
theorem arr_22 : arr 22 10080 := ⟨by decide, fun _ _ _ _ _ => rfl⟩
theorem arr_23 : arr 23 7 := ⟨by decide, fun _ _ _ _ _ => rfl⟩
theorem arr_24 : arr 24 7 := ⟨by decide, fun _ _ _ _ _ => rfl⟩
theorem arr_25 : arr 25 21 := ⟨by decide, fun _ _ _ _ _ => rfl⟩
theorem arr_26 : arr 26 21 := ⟨by decide, fun _ _ _ _ _ => rfl⟩
theorem arr_27 : arr 27 3 := ⟨by decide, fun _ _ _ _ _ => rfl⟩
theorem at_1 : ∀ w ∈ vx_atS RX6 204 eIAE ["java/lang/RuntimeException", "java/lang/Exception"], w ∈ lw_tbl ∧ (goodWord w = true ∨ xtra w = true) := by decide +kernel
theorem ot_1 : ∀ w ∈ vx_atS RX6 204 eIAE ["java/lang/RuntimeException", "java/lang/Exception"], vx_ot w = true := by decide +kernel
theorem at_2 : ∀ w ∈ vx_atS RX6 54 eISE ["java/lang/RuntimeException", "java/lang/Exception"], w ∈ lw_tbl ∧ (goodWord w = true ∨ xtra w = true) := by decide +kernel
theorem ot_2 : ∀ w ∈ vx_atS RX6 54 eISE ["java/lang/RuntimeException", "java/lang/Exception"], vx_ot w = true := by decide +kernel
theorem at_3 : ∀ w ∈ vx_atS RX6 199 eIOB ["java/lang/RuntimeException", "java/lang/Exception"], w ∈ lw_tbl ∧ (goodWord w = true ∨ xtra w = true) := by decide +kernel
theorem ot_3 : ∀ w ∈ vx_atS RX6 199 eIOB ["java/lang/RuntimeException", "java/lang/Exception"], vx_ot w = true := by decide +kernel
