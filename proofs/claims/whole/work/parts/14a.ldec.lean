theorem dL_hire_0 : decode cL_hire 0 = .ok (.aload_n 2, 1) := by decide +kernel
theorem dL_hire_1 : decode cL_hire 1 = .ok (.iconst 0, 1) := by decide +kernel
theorem dL_hire_2 : decode cL_hire 2 = .ok (.aload_n 0, 1) := by decide +kernel
theorem dL_hire_3 : decode cL_hire 3 = .ok (.iload_n 1, 1) := by decide +kernel
theorem dL_hire_4 : decode cL_hire 4 = .ok (.invokevirtual 7, 3) := by decide +kernel
theorem dL_hire_7 : decode cL_hire 7 = .ok (.i2l, 1) := by decide +kernel
theorem dL_hire_8 : decode cL_hire 8 = .ok (.lastore, 1) := by decide +kernel
theorem dL_hire_9 : decode cL_hire 9 = .ok (.goto 9, 3) := by decide +kernel
theorem dL_hire_12 : decode cL_hire 12 = .ok (.astore_n 3, 1) := by decide +kernel
theorem dL_hire_13 : decode cL_hire 13 = .ok (.iconst 1, 1) := by decide +kernel
theorem dL_hire_14 : decode cL_hire 14 = .ok (.ireturn, 1) := by decide +kernel
theorem dL_hire_15 : decode cL_hire 15 = .ok (.astore_n 3, 1) := by decide +kernel
theorem dL_hire_16 : decode cL_hire 16 = .ok (.iconst 2, 1) := by decide +kernel
theorem dL_hire_17 : decode cL_hire 17 = .ok (.ireturn, 1) := by decide +kernel
theorem dL_hire_18 : decode cL_hire 18 = .ok (.iconst 0, 1) := by decide +kernel
theorem dL_hire_19 : decode cL_hire 19 = .ok (.ireturn, 1) := by decide +kernel
theorem dL_setWage_0 : decode cL_setWage 0 = .ok (.aload_n 3, 1) := by decide +kernel
theorem dL_setWage_1 : decode cL_setWage 1 = .ok (.iconst 0, 1) := by decide +kernel
theorem dL_setWage_2 : decode cL_setWage 2 = .ok (.aload_n 0, 1) := by decide +kernel
theorem dL_setWage_3 : decode cL_setWage 3 = .ok (.iload_n 1, 1) := by decide +kernel
theorem dL_setWage_4 : decode cL_setWage 4 = .ok (.iload_n 2, 1) := by decide +kernel
theorem dL_setWage_5 : decode cL_setWage 5 = .ok (.invokevirtual 17, 3) := by decide +kernel
theorem dL_setWage_8 : decode cL_setWage 8 = .ok (.i2l, 1) := by decide +kernel
theorem dL_setWage_9 : decode cL_setWage 9 = .ok (.lastore, 1) := by decide +kernel
theorem dL_setWage_10 : decode cL_setWage 10 = .ok (.goto 11, 3) := by decide +kernel
theorem dL_setWage_13 : decode cL_setWage 13 = .ok (.astore 4, 2) := by decide +kernel
theorem dL_setWage_15 : decode cL_setWage 15 = .ok (.iconst 1, 1) := by decide +kernel
theorem dL_setWage_16 : decode cL_setWage 16 = .ok (.ireturn, 1) := by decide +kernel
theorem dL_setWage_17 : decode cL_setWage 17 = .ok (.astore 4, 2) := by decide +kernel
theorem dL_setWage_19 : decode cL_setWage 19 = .ok (.iconst 2, 1) := by decide +kernel
theorem dL_setWage_20 : decode cL_setWage 20 = .ok (.ireturn, 1) := by decide +kernel
theorem dL_setWage_21 : decode cL_setWage 21 = .ok (.iconst 0, 1) := by decide +kernel
theorem dL_setWage_22 : decode cL_setWage 22 = .ok (.ireturn, 1) := by decide +kernel
theorem dL_punch_0 : decode cL_punch 0 = .ok (.aload 4, 2) := by decide +kernel
theorem dL_punch_2 : decode cL_punch 2 = .ok (.iconst 0, 1) := by decide +kernel
theorem dL_punch_3 : decode cL_punch 3 = .ok (.aload_n 0, 1) := by decide +kernel
theorem dL_punch_4 : decode cL_punch 4 = .ok (.iload_n 1, 1) := by decide +kernel
theorem dL_punch_5 : decode cL_punch 5 = .ok (.iload_n 2, 1) := by decide +kernel
theorem dL_punch_6 : decode cL_punch 6 = .ok (.iload_n 3, 1) := by decide +kernel
theorem dL_punch_7 : decode cL_punch 7 = .ok (.invokevirtual 23, 3) := by decide +kernel
theorem dL_punch_10 : decode cL_punch 10 = .ok (.i2l, 1) := by decide +kernel
theorem dL_punch_11 : decode cL_punch 11 = .ok (.lastore, 1) := by decide +kernel
theorem dL_punch_12 : decode cL_punch 12 = .ok (.goto 15, 3) := by decide +kernel
theorem dL_punch_15 : decode cL_punch 15 = .ok (.astore 5, 2) := by decide +kernel
theorem dL_punch_17 : decode cL_punch 17 = .ok (.iconst 1, 1) := by decide +kernel
theorem dL_punch_18 : decode cL_punch 18 = .ok (.ireturn, 1) := by decide +kernel
theorem dL_punch_19 : decode cL_punch 19 = .ok (.astore 5, 2) := by decide +kernel
theorem dL_punch_21 : decode cL_punch 21 = .ok (.iconst 2, 1) := by decide +kernel
theorem dL_punch_22 : decode cL_punch 22 = .ok (.ireturn, 1) := by decide +kernel
theorem dL_punch_23 : decode cL_punch 23 = .ok (.astore 5, 2) := by decide +kernel
theorem dL_punch_25 : decode cL_punch 25 = .ok (.iconst 3, 1) := by decide +kernel
theorem dL_punch_26 : decode cL_punch 26 = .ok (.ireturn, 1) := by decide +kernel
theorem dL_punch_27 : decode cL_punch 27 = .ok (.iconst 0, 1) := by decide +kernel
theorem dL_punch_28 : decode cL_punch 28 = .ok (.ireturn, 1) := by decide +kernel
theorem dL_removePunch_0 : decode cL_removePunch 0 = .ok (.aload_n 3, 1) := by decide +kernel
theorem dL_removePunch_1 : decode cL_removePunch 1 = .ok (.iconst 0, 1) := by decide +kernel
theorem dL_removePunch_2 : decode cL_removePunch 2 = .ok (.aload_n 0, 1) := by decide +kernel
theorem dL_removePunch_3 : decode cL_removePunch 3 = .ok (.iload_n 1, 1) := by decide +kernel
theorem dL_removePunch_4 : decode cL_removePunch 4 = .ok (.iload_n 2, 1) := by decide +kernel
theorem dL_removePunch_5 : decode cL_removePunch 5 = .ok (.invokevirtual 27, 3) := by decide +kernel
theorem dL_removePunch_8 : decode cL_removePunch 8 = .ok (.ifCond .eq 7, 3) := by decide +kernel
theorem dL_removePunch_11 : decode cL_removePunch 11 = .ok (.lconst 1, 1) := by decide +kernel
theorem dL_removePunch_12 : decode cL_removePunch 12 = .ok (.goto 4, 3) := by decide +kernel
theorem dL_removePunch_15 : decode cL_removePunch 15 = .ok (.lconst 0, 1) := by decide +kernel
theorem dL_removePunch_16 : decode cL_removePunch 16 = .ok (.lastore, 1) := by decide +kernel
theorem dL_removePunch_17 : decode cL_removePunch 17 = .ok (.goto 11, 3) := by decide +kernel
theorem dL_removePunch_20 : decode cL_removePunch 20 = .ok (.astore 4, 2) := by decide +kernel
theorem dL_removePunch_22 : decode cL_removePunch 22 = .ok (.iconst 1, 1) := by decide +kernel
theorem dL_removePunch_23 : decode cL_removePunch 23 = .ok (.ireturn, 1) := by decide +kernel
theorem dL_removePunch_24 : decode cL_removePunch 24 = .ok (.astore 4, 2) := by decide +kernel
theorem dL_removePunch_26 : decode cL_removePunch 26 = .ok (.iconst 2, 1) := by decide +kernel
theorem dL_removePunch_27 : decode cL_removePunch 27 = .ok (.ireturn, 1) := by decide +kernel
theorem dL_removePunch_28 : decode cL_removePunch 28 = .ok (.iconst 0, 1) := by decide +kernel
theorem dL_removePunch_29 : decode cL_removePunch 29 = .ok (.ireturn, 1) := by decide +kernel
theorem dL_enter_0 : decode cL_enter 0 = .ok (.aload 4, 2) := by decide +kernel
theorem dL_enter_2 : decode cL_enter 2 = .ok (.iconst 0, 1) := by decide +kernel
theorem dL_enter_3 : decode cL_enter 3 = .ok (.aload_n 0, 1) := by decide +kernel
theorem dL_enter_4 : decode cL_enter 4 = .ok (.iload_n 1, 1) := by decide +kernel
theorem dL_enter_5 : decode cL_enter 5 = .ok (.iload_n 2, 1) := by decide +kernel
theorem dL_enter_6 : decode cL_enter 6 = .ok (.iload_n 3, 1) := by decide +kernel
theorem dL_enter_7 : decode cL_enter 7 = .ok (.invokevirtual 33, 3) := by decide +kernel
theorem dL_enter_10 : decode cL_enter 10 = .ok (.i2l, 1) := by decide +kernel
theorem dL_enter_11 : decode cL_enter 11 = .ok (.lastore, 1) := by decide +kernel
theorem dL_enter_12 : decode cL_enter 12 = .ok (.goto 15, 3) := by decide +kernel
theorem dL_enter_15 : decode cL_enter 15 = .ok (.astore 5, 2) := by decide +kernel
theorem dL_enter_17 : decode cL_enter 17 = .ok (.iconst 1, 1) := by decide +kernel
theorem dL_enter_18 : decode cL_enter 18 = .ok (.ireturn, 1) := by decide +kernel
theorem dL_enter_19 : decode cL_enter 19 = .ok (.astore 5, 2) := by decide +kernel
theorem dL_enter_21 : decode cL_enter 21 = .ok (.iconst 2, 1) := by decide +kernel
theorem dL_enter_22 : decode cL_enter 22 = .ok (.ireturn, 1) := by decide +kernel
theorem dL_enter_23 : decode cL_enter 23 = .ok (.astore 5, 2) := by decide +kernel
theorem dL_enter_25 : decode cL_enter 25 = .ok (.iconst 3, 1) := by decide +kernel
theorem dL_enter_26 : decode cL_enter 26 = .ok (.ireturn, 1) := by decide +kernel
theorem dL_enter_27 : decode cL_enter 27 = .ok (.iconst 0, 1) := by decide +kernel
theorem dL_enter_28 : decode cL_enter 28 = .ok (.ireturn, 1) := by decide +kernel
theorem dL_removeEntry_0 : decode cL_removeEntry 0 = .ok (.aload_n 3, 1) := by decide +kernel
theorem dL_removeEntry_1 : decode cL_removeEntry 1 = .ok (.iconst 0, 1) := by decide +kernel
theorem dL_removeEntry_2 : decode cL_removeEntry 2 = .ok (.aload_n 0, 1) := by decide +kernel
theorem dL_removeEntry_3 : decode cL_removeEntry 3 = .ok (.iload_n 1, 1) := by decide +kernel
theorem dL_removeEntry_4 : decode cL_removeEntry 4 = .ok (.iload_n 2, 1) := by decide +kernel
theorem dL_removeEntry_5 : decode cL_removeEntry 5 = .ok (.invokevirtual 37, 3) := by decide +kernel
theorem dL_removeEntry_8 : decode cL_removeEntry 8 = .ok (.i2l, 1) := by decide +kernel
theorem dL_removeEntry_9 : decode cL_removeEntry 9 = .ok (.lastore, 1) := by decide +kernel
theorem dL_removeEntry_10 : decode cL_removeEntry 10 = .ok (.goto 7, 3) := by decide +kernel
theorem dL_removeEntry_13 : decode cL_removeEntry 13 = .ok (.astore 4, 2) := by decide +kernel
theorem dL_removeEntry_15 : decode cL_removeEntry 15 = .ok (.iconst 1, 1) := by decide +kernel
theorem dL_removeEntry_16 : decode cL_removeEntry 16 = .ok (.ireturn, 1) := by decide +kernel
theorem dL_removeEntry_17 : decode cL_removeEntry 17 = .ok (.iconst 0, 1) := by decide +kernel
theorem dL_removeEntry_18 : decode cL_removeEntry 18 = .ok (.ireturn, 1) := by decide +kernel
theorem dL_enterBreak_0 : decode cL_enterBreak 0 = .ok (.aload 4, 2) := by decide +kernel
theorem dL_enterBreak_2 : decode cL_enterBreak 2 = .ok (.iconst 0, 1) := by decide +kernel
theorem dL_enterBreak_3 : decode cL_enterBreak 3 = .ok (.aload_n 0, 1) := by decide +kernel
theorem dL_enterBreak_4 : decode cL_enterBreak 4 = .ok (.iload_n 1, 1) := by decide +kernel
theorem dL_enterBreak_5 : decode cL_enterBreak 5 = .ok (.iload_n 2, 1) := by decide +kernel
theorem dL_enterBreak_6 : decode cL_enterBreak 6 = .ok (.iload_n 3, 1) := by decide +kernel
theorem dL_enterBreak_7 : decode cL_enterBreak 7 = .ok (.invokevirtual 40, 3) := by decide +kernel
theorem dL_enterBreak_10 : decode cL_enterBreak 10 = .ok (.i2l, 1) := by decide +kernel
theorem dL_enterBreak_11 : decode cL_enterBreak 11 = .ok (.lastore, 1) := by decide +kernel
theorem dL_enterBreak_12 : decode cL_enterBreak 12 = .ok (.goto 15, 3) := by decide +kernel
theorem dL_enterBreak_15 : decode cL_enterBreak 15 = .ok (.astore 5, 2) := by decide +kernel
theorem dL_enterBreak_17 : decode cL_enterBreak 17 = .ok (.iconst 1, 1) := by decide +kernel
theorem dL_enterBreak_18 : decode cL_enterBreak 18 = .ok (.ireturn, 1) := by decide +kernel
theorem dL_enterBreak_19 : decode cL_enterBreak 19 = .ok (.astore 5, 2) := by decide +kernel
theorem dL_enterBreak_21 : decode cL_enterBreak 21 = .ok (.iconst 2, 1) := by decide +kernel
theorem dL_enterBreak_22 : decode cL_enterBreak 22 = .ok (.ireturn, 1) := by decide +kernel
theorem dL_enterBreak_23 : decode cL_enterBreak 23 = .ok (.astore 5, 2) := by decide +kernel
theorem dL_enterBreak_25 : decode cL_enterBreak 25 = .ok (.iconst 3, 1) := by decide +kernel
theorem dL_enterBreak_26 : decode cL_enterBreak 26 = .ok (.ireturn, 1) := by decide +kernel
theorem dL_enterBreak_27 : decode cL_enterBreak 27 = .ok (.iconst 0, 1) := by decide +kernel
theorem dL_enterBreak_28 : decode cL_enterBreak 28 = .ok (.ireturn, 1) := by decide +kernel
theorem dL_removeBreak_0 : decode cL_removeBreak 0 = .ok (.aload_n 3, 1) := by decide +kernel
theorem dL_removeBreak_1 : decode cL_removeBreak 1 = .ok (.iconst 0, 1) := by decide +kernel
theorem dL_removeBreak_2 : decode cL_removeBreak 2 = .ok (.aload_n 0, 1) := by decide +kernel
theorem dL_removeBreak_3 : decode cL_removeBreak 3 = .ok (.iload_n 1, 1) := by decide +kernel
theorem dL_removeBreak_4 : decode cL_removeBreak 4 = .ok (.iload_n 2, 1) := by decide +kernel
theorem dL_removeBreak_5 : decode cL_removeBreak 5 = .ok (.invokevirtual 43, 3) := by decide +kernel
theorem dL_removeBreak_8 : decode cL_removeBreak 8 = .ok (.i2l, 1) := by decide +kernel
theorem dL_removeBreak_9 : decode cL_removeBreak 9 = .ok (.lastore, 1) := by decide +kernel
theorem dL_removeBreak_10 : decode cL_removeBreak 10 = .ok (.goto 7, 3) := by decide +kernel
theorem dL_removeBreak_13 : decode cL_removeBreak 13 = .ok (.astore 4, 2) := by decide +kernel
theorem dL_removeBreak_15 : decode cL_removeBreak 15 = .ok (.iconst 1, 1) := by decide +kernel
theorem dL_removeBreak_16 : decode cL_removeBreak 16 = .ok (.ireturn, 1) := by decide +kernel
theorem dL_removeBreak_17 : decode cL_removeBreak 17 = .ok (.iconst 0, 1) := by decide +kernel
theorem dL_removeBreak_18 : decode cL_removeBreak 18 = .ok (.ireturn, 1) := by decide +kernel
theorem dL_addPremium_0 : decode cL_addPremium 0 = .ok (.aload 5, 2) := by decide +kernel
theorem dL_addPremium_2 : decode cL_addPremium 2 = .ok (.iconst 0, 1) := by decide +kernel
theorem dL_addPremium_3 : decode cL_addPremium 3 = .ok (.aload_n 0, 1) := by decide +kernel
theorem dL_addPremium_4 : decode cL_addPremium 4 = .ok (.iload_n 1, 1) := by decide +kernel
theorem dL_addPremium_5 : decode cL_addPremium 5 = .ok (.iload_n 2, 1) := by decide +kernel
theorem dL_addPremium_6 : decode cL_addPremium 6 = .ok (.iload_n 3, 1) := by decide +kernel
theorem dL_addPremium_7 : decode cL_addPremium 7 = .ok (.iload 4, 2) := by decide +kernel
theorem dL_addPremium_9 : decode cL_addPremium 9 = .ok (.invokevirtual 46, 3) := by decide +kernel
theorem dL_addPremium_12 : decode cL_addPremium 12 = .ok (.i2l, 1) := by decide +kernel
theorem dL_addPremium_13 : decode cL_addPremium 13 = .ok (.lastore, 1) := by decide +kernel
theorem dL_addPremium_14 : decode cL_addPremium 14 = .ok (.goto 11, 3) := by decide +kernel
theorem dL_addPremium_17 : decode cL_addPremium 17 = .ok (.astore 6, 2) := by decide +kernel
theorem dL_addPremium_19 : decode cL_addPremium 19 = .ok (.iconst 1, 1) := by decide +kernel
theorem dL_addPremium_20 : decode cL_addPremium 20 = .ok (.ireturn, 1) := by decide +kernel
theorem dL_addPremium_21 : decode cL_addPremium 21 = .ok (.astore 6, 2) := by decide +kernel
theorem dL_addPremium_23 : decode cL_addPremium 23 = .ok (.iconst 2, 1) := by decide +kernel
theorem dL_addPremium_24 : decode cL_addPremium 24 = .ok (.ireturn, 1) := by decide +kernel
theorem dL_addPremium_25 : decode cL_addPremium 25 = .ok (.iconst 0, 1) := by decide +kernel
theorem dL_addPremium_26 : decode cL_addPremium 26 = .ok (.ireturn, 1) := by decide +kernel
theorem dL_removePremium_0 : decode cL_removePremium 0 = .ok (.aload_n 2, 1) := by decide +kernel
theorem dL_removePremium_1 : decode cL_removePremium 1 = .ok (.iconst 0, 1) := by decide +kernel
theorem dL_removePremium_2 : decode cL_removePremium 2 = .ok (.aload_n 0, 1) := by decide +kernel
theorem dL_removePremium_3 : decode cL_removePremium 3 = .ok (.iload_n 1, 1) := by decide +kernel
theorem dL_removePremium_4 : decode cL_removePremium 4 = .ok (.invokevirtual 50, 3) := by decide +kernel
theorem dL_removePremium_7 : decode cL_removePremium 7 = .ok (.i2l, 1) := by decide +kernel
theorem dL_removePremium_8 : decode cL_removePremium 8 = .ok (.lastore, 1) := by decide +kernel
theorem dL_removePremium_9 : decode cL_removePremium 9 = .ok (.goto 6, 3) := by decide +kernel
theorem dL_removePremium_12 : decode cL_removePremium 12 = .ok (.astore_n 3, 1) := by decide +kernel
theorem dL_removePremium_13 : decode cL_removePremium 13 = .ok (.iconst 1, 1) := by decide +kernel
theorem dL_removePremium_14 : decode cL_removePremium 14 = .ok (.ireturn, 1) := by decide +kernel
theorem dL_removePremium_15 : decode cL_removePremium 15 = .ok (.iconst 0, 1) := by decide +kernel
theorem dL_removePremium_16 : decode cL_removePremium 16 = .ok (.ireturn, 1) := by decide +kernel
theorem dL_closeWeek_0 : decode cL_closeWeek 0 = .ok (.aload_n 2, 1) := by decide +kernel
theorem dL_closeWeek_1 : decode cL_closeWeek 1 = .ok (.iconst 0, 1) := by decide +kernel
theorem dL_closeWeek_2 : decode cL_closeWeek 2 = .ok (.aload_n 0, 1) := by decide +kernel
theorem dL_closeWeek_3 : decode cL_closeWeek 3 = .ok (.iload_n 1, 1) := by decide +kernel
theorem dL_closeWeek_4 : decode cL_closeWeek 4 = .ok (.invokevirtual 53, 3) := by decide +kernel
theorem dL_closeWeek_7 : decode cL_closeWeek 7 = .ok (.i2l, 1) := by decide +kernel
theorem dL_closeWeek_8 : decode cL_closeWeek 8 = .ok (.lastore, 1) := by decide +kernel
theorem dL_closeWeek_9 : decode cL_closeWeek 9 = .ok (.goto 9, 3) := by decide +kernel
theorem dL_closeWeek_12 : decode cL_closeWeek 12 = .ok (.astore_n 3, 1) := by decide +kernel
theorem dL_closeWeek_13 : decode cL_closeWeek 13 = .ok (.iconst 1, 1) := by decide +kernel
theorem dL_closeWeek_14 : decode cL_closeWeek 14 = .ok (.ireturn, 1) := by decide +kernel
theorem dL_closeWeek_15 : decode cL_closeWeek 15 = .ok (.astore_n 3, 1) := by decide +kernel
theorem dL_closeWeek_16 : decode cL_closeWeek 16 = .ok (.iconst 2, 1) := by decide +kernel
theorem dL_closeWeek_17 : decode cL_closeWeek 17 = .ok (.ireturn, 1) := by decide +kernel
theorem dL_closeWeek_18 : decode cL_closeWeek 18 = .ok (.iconst 0, 1) := by decide +kernel
theorem dL_closeWeek_19 : decode cL_closeWeek 19 = .ok (.ireturn, 1) := by decide +kernel
theorem dL_closedWeeks_0 : decode cL_closedWeeks 0 = .ok (.aload_n 2, 1) := by decide +kernel
theorem dL_closedWeeks_1 : decode cL_closedWeeks 1 = .ok (.iconst 0, 1) := by decide +kernel
theorem dL_closedWeeks_2 : decode cL_closedWeeks 2 = .ok (.aload_n 0, 1) := by decide +kernel
theorem dL_closedWeeks_3 : decode cL_closedWeeks 3 = .ok (.iload_n 1, 1) := by decide +kernel
theorem dL_closedWeeks_4 : decode cL_closedWeeks 4 = .ok (.invokevirtual 56, 3) := by decide +kernel
theorem dL_closedWeeks_7 : decode cL_closedWeeks 7 = .ok (.i2l, 1) := by decide +kernel
theorem dL_closedWeeks_8 : decode cL_closedWeeks 8 = .ok (.lastore, 1) := by decide +kernel
theorem dL_closedWeeks_9 : decode cL_closedWeeks 9 = .ok (.goto 6, 3) := by decide +kernel
theorem dL_closedWeeks_12 : decode cL_closedWeeks 12 = .ok (.astore_n 3, 1) := by decide +kernel
theorem dL_closedWeeks_13 : decode cL_closedWeeks 13 = .ok (.iconst 1, 1) := by decide +kernel
theorem dL_closedWeeks_14 : decode cL_closedWeeks 14 = .ok (.ireturn, 1) := by decide +kernel
theorem dL_closedWeeks_15 : decode cL_closedWeeks 15 = .ok (.iconst 0, 1) := by decide +kernel
theorem dL_closedWeeks_16 : decode cL_closedWeeks 16 = .ok (.ireturn, 1) := by decide +kernel
theorem dL_earned_0 : decode cL_earned 0 = .ok (.aload_n 2, 1) := by decide +kernel
theorem dL_earned_1 : decode cL_earned 1 = .ok (.iconst 0, 1) := by decide +kernel
theorem dL_earned_2 : decode cL_earned 2 = .ok (.aload_n 0, 1) := by decide +kernel
theorem dL_earned_3 : decode cL_earned 3 = .ok (.iload_n 1, 1) := by decide +kernel
theorem dL_earned_4 : decode cL_earned 4 = .ok (.invokevirtual 59, 3) := by decide +kernel
theorem dL_earned_7 : decode cL_earned 7 = .ok (.lastore, 1) := by decide +kernel
theorem dL_earned_8 : decode cL_earned 8 = .ok (.goto 6, 3) := by decide +kernel
theorem dL_earned_11 : decode cL_earned 11 = .ok (.astore_n 3, 1) := by decide +kernel
theorem dL_earned_12 : decode cL_earned 12 = .ok (.iconst 1, 1) := by decide +kernel
theorem dL_earned_13 : decode cL_earned 13 = .ok (.ireturn, 1) := by decide +kernel
theorem dL_earned_14 : decode cL_earned 14 = .ok (.iconst 0, 1) := by decide +kernel
theorem dL_earned_15 : decode cL_earned 15 = .ok (.ireturn, 1) := by decide +kernel
theorem dL_shifts_0 : decode cL_shifts 0 = .ok (.aload_n 2, 1) := by decide +kernel
theorem dL_shifts_1 : decode cL_shifts 1 = .ok (.iconst 0, 1) := by decide +kernel
theorem dL_shifts_2 : decode cL_shifts 2 = .ok (.aload_n 0, 1) := by decide +kernel
theorem dL_shifts_3 : decode cL_shifts 3 = .ok (.iload_n 1, 1) := by decide +kernel
theorem dL_shifts_4 : decode cL_shifts 4 = .ok (.invokevirtual 63, 3) := by decide +kernel
theorem dL_shifts_7 : decode cL_shifts 7 = .ok (.i2l, 1) := by decide +kernel
theorem dL_shifts_8 : decode cL_shifts 8 = .ok (.lastore, 1) := by decide +kernel
theorem dL_shifts_9 : decode cL_shifts 9 = .ok (.goto 6, 3) := by decide +kernel
theorem dL_shifts_12 : decode cL_shifts 12 = .ok (.astore_n 3, 1) := by decide +kernel
theorem dL_shifts_13 : decode cL_shifts 13 = .ok (.iconst 1, 1) := by decide +kernel
theorem dL_shifts_14 : decode cL_shifts 14 = .ok (.ireturn, 1) := by decide +kernel
theorem dL_shifts_15 : decode cL_shifts 15 = .ok (.iconst 0, 1) := by decide +kernel
theorem dL_shifts_16 : decode cL_shifts 16 = .ok (.ireturn, 1) := by decide +kernel
theorem dL_shiftBegin_0 : decode cL_shiftBegin 0 = .ok (.aload_n 3, 1) := by decide +kernel
theorem dL_shiftBegin_1 : decode cL_shiftBegin 1 = .ok (.iconst 0, 1) := by decide +kernel
theorem dL_shiftBegin_2 : decode cL_shiftBegin 2 = .ok (.aload_n 0, 1) := by decide +kernel
theorem dL_shiftBegin_3 : decode cL_shiftBegin 3 = .ok (.iload_n 1, 1) := by decide +kernel
theorem dL_shiftBegin_4 : decode cL_shiftBegin 4 = .ok (.iload_n 2, 1) := by decide +kernel
theorem dL_shiftBegin_5 : decode cL_shiftBegin 5 = .ok (.invokevirtual 66, 3) := by decide +kernel
theorem dL_shiftBegin_8 : decode cL_shiftBegin 8 = .ok (.i2l, 1) := by decide +kernel
theorem dL_shiftBegin_9 : decode cL_shiftBegin 9 = .ok (.lastore, 1) := by decide +kernel
theorem dL_shiftBegin_10 : decode cL_shiftBegin 10 = .ok (.goto 7, 3) := by decide +kernel
theorem dL_shiftBegin_13 : decode cL_shiftBegin 13 = .ok (.astore 4, 2) := by decide +kernel
theorem dL_shiftBegin_15 : decode cL_shiftBegin 15 = .ok (.iconst 1, 1) := by decide +kernel
theorem dL_shiftBegin_16 : decode cL_shiftBegin 16 = .ok (.ireturn, 1) := by decide +kernel
theorem dL_shiftBegin_17 : decode cL_shiftBegin 17 = .ok (.iconst 0, 1) := by decide +kernel
theorem dL_shiftBegin_18 : decode cL_shiftBegin 18 = .ok (.ireturn, 1) := by decide +kernel
theorem dL_shiftEnd_0 : decode cL_shiftEnd 0 = .ok (.aload_n 3, 1) := by decide +kernel
theorem dL_shiftEnd_1 : decode cL_shiftEnd 1 = .ok (.iconst 0, 1) := by decide +kernel
theorem dL_shiftEnd_2 : decode cL_shiftEnd 2 = .ok (.aload_n 0, 1) := by decide +kernel
theorem dL_shiftEnd_3 : decode cL_shiftEnd 3 = .ok (.iload_n 1, 1) := by decide +kernel
theorem dL_shiftEnd_4 : decode cL_shiftEnd 4 = .ok (.iload_n 2, 1) := by decide +kernel
theorem dL_shiftEnd_5 : decode cL_shiftEnd 5 = .ok (.invokevirtual 69, 3) := by decide +kernel
theorem dL_shiftEnd_8 : decode cL_shiftEnd 8 = .ok (.i2l, 1) := by decide +kernel
theorem dL_shiftEnd_9 : decode cL_shiftEnd 9 = .ok (.lastore, 1) := by decide +kernel
theorem dL_shiftEnd_10 : decode cL_shiftEnd 10 = .ok (.goto 7, 3) := by decide +kernel
theorem dL_shiftEnd_13 : decode cL_shiftEnd 13 = .ok (.astore 4, 2) := by decide +kernel
theorem dL_shiftEnd_15 : decode cL_shiftEnd 15 = .ok (.iconst 1, 1) := by decide +kernel
theorem dL_shiftEnd_16 : decode cL_shiftEnd 16 = .ok (.ireturn, 1) := by decide +kernel
theorem dL_shiftEnd_17 : decode cL_shiftEnd 17 = .ok (.iconst 0, 1) := by decide +kernel
theorem dL_shiftEnd_18 : decode cL_shiftEnd 18 = .ok (.ireturn, 1) := by decide +kernel
theorem dL_repairedShifts_0 : decode cL_repairedShifts 0 = .ok (.aload_n 2, 1) := by decide +kernel
theorem dL_repairedShifts_1 : decode cL_repairedShifts 1 = .ok (.iconst 0, 1) := by decide +kernel
theorem dL_repairedShifts_2 : decode cL_repairedShifts 2 = .ok (.aload_n 0, 1) := by decide +kernel
theorem dL_repairedShifts_3 : decode cL_repairedShifts 3 = .ok (.iload_n 1, 1) := by decide +kernel
theorem dL_repairedShifts_4 : decode cL_repairedShifts 4 = .ok (.invokevirtual 72, 3) := by decide +kernel
theorem dL_repairedShifts_7 : decode cL_repairedShifts 7 = .ok (.i2l, 1) := by decide +kernel
theorem dL_repairedShifts_8 : decode cL_repairedShifts 8 = .ok (.lastore, 1) := by decide +kernel
theorem dL_repairedShifts_9 : decode cL_repairedShifts 9 = .ok (.goto 6, 3) := by decide +kernel
theorem dL_repairedShifts_12 : decode cL_repairedShifts 12 = .ok (.astore_n 3, 1) := by decide +kernel
theorem dL_repairedShifts_13 : decode cL_repairedShifts 13 = .ok (.iconst 1, 1) := by decide +kernel
theorem dL_repairedShifts_14 : decode cL_repairedShifts 14 = .ok (.ireturn, 1) := by decide +kernel
theorem dL_repairedShifts_15 : decode cL_repairedShifts 15 = .ok (.iconst 0, 1) := by decide +kernel
theorem dL_repairedShifts_16 : decode cL_repairedShifts 16 = .ok (.ireturn, 1) := by decide +kernel
theorem dL_coverage_0 : decode cL_coverage 0 = .ok (.aload_n 3, 1) := by decide +kernel
theorem dL_coverage_1 : decode cL_coverage 1 = .ok (.iconst 0, 1) := by decide +kernel
theorem dL_coverage_2 : decode cL_coverage 2 = .ok (.aload_n 0, 1) := by decide +kernel
theorem dL_coverage_3 : decode cL_coverage 3 = .ok (.iload_n 1, 1) := by decide +kernel
theorem dL_coverage_4 : decode cL_coverage 4 = .ok (.iload_n 2, 1) := by decide +kernel
theorem dL_coverage_5 : decode cL_coverage 5 = .ok (.invokevirtual 75, 3) := by decide +kernel
theorem dL_coverage_8 : decode cL_coverage 8 = .ok (.i2l, 1) := by decide +kernel
theorem dL_coverage_9 : decode cL_coverage 9 = .ok (.lastore, 1) := by decide +kernel
theorem dL_coverage_10 : decode cL_coverage 10 = .ok (.goto 11, 3) := by decide +kernel
theorem dL_coverage_13 : decode cL_coverage 13 = .ok (.astore 4, 2) := by decide +kernel
theorem dL_coverage_15 : decode cL_coverage 15 = .ok (.iconst 1, 1) := by decide +kernel
theorem dL_coverage_16 : decode cL_coverage 16 = .ok (.ireturn, 1) := by decide +kernel
theorem dL_coverage_17 : decode cL_coverage 17 = .ok (.astore 4, 2) := by decide +kernel
theorem dL_coverage_19 : decode cL_coverage 19 = .ok (.iconst 2, 1) := by decide +kernel
theorem dL_coverage_20 : decode cL_coverage 20 = .ok (.ireturn, 1) := by decide +kernel
theorem dL_coverage_21 : decode cL_coverage 21 = .ok (.iconst 0, 1) := by decide +kernel
theorem dL_coverage_22 : decode cL_coverage 22 = .ok (.ireturn, 1) := by decide +kernel
theorem dL_overlap_0 : decode cL_overlap 0 = .ok (.aload_n 2, 1) := by decide +kernel
theorem dL_overlap_1 : decode cL_overlap 1 = .ok (.iconst 0, 1) := by decide +kernel
theorem dL_overlap_2 : decode cL_overlap 2 = .ok (.aload_n 0, 1) := by decide +kernel
theorem dL_overlap_3 : decode cL_overlap 3 = .ok (.iload_n 1, 1) := by decide +kernel
theorem dL_overlap_4 : decode cL_overlap 4 = .ok (.invokevirtual 78, 3) := by decide +kernel
theorem dL_overlap_7 : decode cL_overlap 7 = .ok (.i2l, 1) := by decide +kernel
theorem dL_overlap_8 : decode cL_overlap 8 = .ok (.lastore, 1) := by decide +kernel
theorem dL_overlap_9 : decode cL_overlap 9 = .ok (.goto 6, 3) := by decide +kernel
theorem dL_overlap_12 : decode cL_overlap 12 = .ok (.astore_n 3, 1) := by decide +kernel
theorem dL_overlap_13 : decode cL_overlap 13 = .ok (.iconst 1, 1) := by decide +kernel
theorem dL_overlap_14 : decode cL_overlap 14 = .ok (.ireturn, 1) := by decide +kernel
theorem dL_overlap_15 : decode cL_overlap 15 = .ok (.iconst 0, 1) := by decide +kernel
theorem dL_overlap_16 : decode cL_overlap 16 = .ok (.ireturn, 1) := by decide +kernel
theorem dL_workedOn_0 : decode cL_workedOn 0 = .ok (.aload_n 3, 1) := by decide +kernel
theorem dL_workedOn_1 : decode cL_workedOn 1 = .ok (.iconst 0, 1) := by decide +kernel
theorem dL_workedOn_2 : decode cL_workedOn 2 = .ok (.aload_n 0, 1) := by decide +kernel
theorem dL_workedOn_3 : decode cL_workedOn 3 = .ok (.iload_n 1, 1) := by decide +kernel
theorem dL_workedOn_4 : decode cL_workedOn 4 = .ok (.iload_n 2, 1) := by decide +kernel
theorem dL_workedOn_5 : decode cL_workedOn 5 = .ok (.invokevirtual 81, 3) := by decide +kernel
theorem dL_workedOn_8 : decode cL_workedOn 8 = .ok (.i2l, 1) := by decide +kernel
theorem dL_workedOn_9 : decode cL_workedOn 9 = .ok (.lastore, 1) := by decide +kernel
theorem dL_workedOn_10 : decode cL_workedOn 10 = .ok (.goto 11, 3) := by decide +kernel
theorem dL_workedOn_13 : decode cL_workedOn 13 = .ok (.astore 4, 2) := by decide +kernel
theorem dL_workedOn_15 : decode cL_workedOn 15 = .ok (.iconst 1, 1) := by decide +kernel
theorem dL_workedOn_16 : decode cL_workedOn 16 = .ok (.ireturn, 1) := by decide +kernel
theorem dL_workedOn_17 : decode cL_workedOn 17 = .ok (.astore 4, 2) := by decide +kernel
theorem dL_workedOn_19 : decode cL_workedOn 19 = .ok (.iconst 2, 1) := by decide +kernel
theorem dL_workedOn_20 : decode cL_workedOn 20 = .ok (.ireturn, 1) := by decide +kernel
theorem dL_workedOn_21 : decode cL_workedOn 21 = .ok (.iconst 0, 1) := by decide +kernel
theorem dL_workedOn_22 : decode cL_workedOn 22 = .ok (.ireturn, 1) := by decide +kernel
theorem dL_stretches_0 : decode cL_stretches 0 = .ok (.aload_n 2, 1) := by decide +kernel
theorem dL_stretches_1 : decode cL_stretches 1 = .ok (.iconst 0, 1) := by decide +kernel
theorem dL_stretches_2 : decode cL_stretches 2 = .ok (.aload_n 0, 1) := by decide +kernel
theorem dL_stretches_3 : decode cL_stretches 3 = .ok (.iload_n 1, 1) := by decide +kernel
theorem dL_stretches_4 : decode cL_stretches 4 = .ok (.invokevirtual 84, 3) := by decide +kernel
theorem dL_stretches_7 : decode cL_stretches 7 = .ok (.i2l, 1) := by decide +kernel
theorem dL_stretches_8 : decode cL_stretches 8 = .ok (.lastore, 1) := by decide +kernel
theorem dL_stretches_9 : decode cL_stretches 9 = .ok (.goto 6, 3) := by decide +kernel
theorem dL_stretches_12 : decode cL_stretches 12 = .ok (.astore_n 3, 1) := by decide +kernel
theorem dL_stretches_13 : decode cL_stretches 13 = .ok (.iconst 1, 1) := by decide +kernel
theorem dL_stretches_14 : decode cL_stretches 14 = .ok (.ireturn, 1) := by decide +kernel
theorem dL_stretches_15 : decode cL_stretches 15 = .ok (.iconst 0, 1) := by decide +kernel
theorem dL_stretches_16 : decode cL_stretches 16 = .ok (.ireturn, 1) := by decide +kernel
theorem dL_longestStretch_0 : decode cL_longestStretch 0 = .ok (.aload_n 2, 1) := by decide +kernel
theorem dL_longestStretch_1 : decode cL_longestStretch 1 = .ok (.iconst 0, 1) := by decide +kernel
theorem dL_longestStretch_2 : decode cL_longestStretch 2 = .ok (.aload_n 0, 1) := by decide +kernel
theorem dL_longestStretch_3 : decode cL_longestStretch 3 = .ok (.iload_n 1, 1) := by decide +kernel
theorem dL_longestStretch_4 : decode cL_longestStretch 4 = .ok (.invokevirtual 87, 3) := by decide +kernel
theorem dL_longestStretch_7 : decode cL_longestStretch 7 = .ok (.i2l, 1) := by decide +kernel
theorem dL_longestStretch_8 : decode cL_longestStretch 8 = .ok (.lastore, 1) := by decide +kernel
theorem dL_longestStretch_9 : decode cL_longestStretch 9 = .ok (.goto 6, 3) := by decide +kernel
theorem dL_longestStretch_12 : decode cL_longestStretch 12 = .ok (.astore_n 3, 1) := by decide +kernel
theorem dL_longestStretch_13 : decode cL_longestStretch 13 = .ok (.iconst 1, 1) := by decide +kernel
theorem dL_longestStretch_14 : decode cL_longestStretch 14 = .ok (.ireturn, 1) := by decide +kernel
theorem dL_longestStretch_15 : decode cL_longestStretch 15 = .ok (.iconst 0, 1) := by decide +kernel
theorem dL_longestStretch_16 : decode cL_longestStretch 16 = .ok (.ireturn, 1) := by decide +kernel
theorem dL_category_0 : decode cL_category 0 = .ok (.aload_n 3, 1) := by decide +kernel
theorem dL_category_1 : decode cL_category 1 = .ok (.iconst 0, 1) := by decide +kernel
theorem dL_category_2 : decode cL_category 2 = .ok (.aload_n 0, 1) := by decide +kernel
theorem dL_category_3 : decode cL_category 3 = .ok (.iload_n 1, 1) := by decide +kernel
theorem dL_category_4 : decode cL_category 4 = .ok (.iload_n 2, 1) := by decide +kernel
theorem dL_category_5 : decode cL_category 5 = .ok (.invokevirtual 90, 3) := by decide +kernel
theorem dL_category_8 : decode cL_category 8 = .ok (.i2l, 1) := by decide +kernel
theorem dL_category_9 : decode cL_category 9 = .ok (.lastore, 1) := by decide +kernel
theorem dL_category_10 : decode cL_category 10 = .ok (.goto 11, 3) := by decide +kernel
theorem dL_category_13 : decode cL_category 13 = .ok (.astore 4, 2) := by decide +kernel
theorem dL_category_15 : decode cL_category 15 = .ok (.iconst 1, 1) := by decide +kernel
theorem dL_category_16 : decode cL_category 16 = .ok (.ireturn, 1) := by decide +kernel
theorem dL_category_17 : decode cL_category 17 = .ok (.astore 4, 2) := by decide +kernel
theorem dL_category_19 : decode cL_category 19 = .ok (.iconst 2, 1) := by decide +kernel
theorem dL_category_20 : decode cL_category 20 = .ok (.ireturn, 1) := by decide +kernel
theorem dL_category_21 : decode cL_category 21 = .ok (.iconst 0, 1) := by decide +kernel
theorem dL_category_22 : decode cL_category 22 = .ok (.ireturn, 1) := by decide +kernel
theorem dL_minutes_0 : decode cL_minutes 0 = .ok (.aload 4, 2) := by decide +kernel
theorem dL_minutes_2 : decode cL_minutes 2 = .ok (.iconst 0, 1) := by decide +kernel
theorem dL_minutes_3 : decode cL_minutes 3 = .ok (.aload_n 0, 1) := by decide +kernel
theorem dL_minutes_4 : decode cL_minutes 4 = .ok (.iload_n 1, 1) := by decide +kernel
theorem dL_minutes_5 : decode cL_minutes 5 = .ok (.iload_n 2, 1) := by decide +kernel
theorem dL_minutes_6 : decode cL_minutes 6 = .ok (.iload_n 3, 1) := by decide +kernel
theorem dL_minutes_7 : decode cL_minutes 7 = .ok (.invokevirtual 93, 3) := by decide +kernel
theorem dL_minutes_10 : decode cL_minutes 10 = .ok (.i2l, 1) := by decide +kernel
theorem dL_minutes_11 : decode cL_minutes 11 = .ok (.lastore, 1) := by decide +kernel
theorem dL_minutes_12 : decode cL_minutes 12 = .ok (.goto 11, 3) := by decide +kernel
theorem dL_minutes_15 : decode cL_minutes 15 = .ok (.astore 5, 2) := by decide +kernel
theorem dL_minutes_17 : decode cL_minutes 17 = .ok (.iconst 1, 1) := by decide +kernel
theorem dL_minutes_18 : decode cL_minutes 18 = .ok (.ireturn, 1) := by decide +kernel
theorem dL_minutes_19 : decode cL_minutes 19 = .ok (.astore 5, 2) := by decide +kernel
theorem dL_minutes_21 : decode cL_minutes 21 = .ok (.iconst 2, 1) := by decide +kernel
theorem dL_minutes_22 : decode cL_minutes 22 = .ok (.ireturn, 1) := by decide +kernel
theorem dL_minutes_23 : decode cL_minutes 23 = .ok (.iconst 0, 1) := by decide +kernel
theorem dL_minutes_24 : decode cL_minutes 24 = .ok (.ireturn, 1) := by decide +kernel
theorem dL_quarters_0 : decode cL_quarters 0 = .ok (.aload 4, 2) := by decide +kernel
theorem dL_quarters_2 : decode cL_quarters 2 = .ok (.iconst 0, 1) := by decide +kernel
theorem dL_quarters_3 : decode cL_quarters 3 = .ok (.aload_n 0, 1) := by decide +kernel
theorem dL_quarters_4 : decode cL_quarters 4 = .ok (.iload_n 1, 1) := by decide +kernel
theorem dL_quarters_5 : decode cL_quarters 5 = .ok (.iload_n 2, 1) := by decide +kernel
theorem dL_quarters_6 : decode cL_quarters 6 = .ok (.iload_n 3, 1) := by decide +kernel
theorem dL_quarters_7 : decode cL_quarters 7 = .ok (.invokevirtual 96, 3) := by decide +kernel
theorem dL_quarters_10 : decode cL_quarters 10 = .ok (.i2l, 1) := by decide +kernel
theorem dL_quarters_11 : decode cL_quarters 11 = .ok (.lastore, 1) := by decide +kernel
theorem dL_quarters_12 : decode cL_quarters 12 = .ok (.goto 11, 3) := by decide +kernel
theorem dL_quarters_15 : decode cL_quarters 15 = .ok (.astore 5, 2) := by decide +kernel
theorem dL_quarters_17 : decode cL_quarters 17 = .ok (.iconst 1, 1) := by decide +kernel
theorem dL_quarters_18 : decode cL_quarters 18 = .ok (.ireturn, 1) := by decide +kernel
theorem dL_quarters_19 : decode cL_quarters 19 = .ok (.astore 5, 2) := by decide +kernel
theorem dL_quarters_21 : decode cL_quarters 21 = .ok (.iconst 2, 1) := by decide +kernel
theorem dL_quarters_22 : decode cL_quarters 22 = .ok (.ireturn, 1) := by decide +kernel
theorem dL_quarters_23 : decode cL_quarters 23 = .ok (.iconst 0, 1) := by decide +kernel
theorem dL_quarters_24 : decode cL_quarters 24 = .ok (.ireturn, 1) := by decide +kernel
theorem dL_premiumPay_0 : decode cL_premiumPay 0 = .ok (.aload_n 2, 1) := by decide +kernel
theorem dL_premiumPay_1 : decode cL_premiumPay 1 = .ok (.iconst 0, 1) := by decide +kernel
theorem dL_premiumPay_2 : decode cL_premiumPay 2 = .ok (.aload_n 0, 1) := by decide +kernel
theorem dL_premiumPay_3 : decode cL_premiumPay 3 = .ok (.iload_n 1, 1) := by decide +kernel
theorem dL_premiumPay_4 : decode cL_premiumPay 4 = .ok (.invokevirtual 99, 3) := by decide +kernel
theorem dL_premiumPay_7 : decode cL_premiumPay 7 = .ok (.i2l, 1) := by decide +kernel
theorem dL_premiumPay_8 : decode cL_premiumPay 8 = .ok (.lastore, 1) := by decide +kernel
theorem dL_premiumPay_9 : decode cL_premiumPay 9 = .ok (.goto 6, 3) := by decide +kernel
theorem dL_premiumPay_12 : decode cL_premiumPay 12 = .ok (.astore_n 3, 1) := by decide +kernel
theorem dL_premiumPay_13 : decode cL_premiumPay 13 = .ok (.iconst 1, 1) := by decide +kernel
theorem dL_premiumPay_14 : decode cL_premiumPay 14 = .ok (.ireturn, 1) := by decide +kernel
theorem dL_premiumPay_15 : decode cL_premiumPay 15 = .ok (.iconst 0, 1) := by decide +kernel
theorem dL_premiumPay_16 : decode cL_premiumPay 16 = .ok (.ireturn, 1) := by decide +kernel
theorem dL_pay_0 : decode cL_pay 0 = .ok (.aload_n 2, 1) := by decide +kernel
theorem dL_pay_1 : decode cL_pay 1 = .ok (.iconst 0, 1) := by decide +kernel
theorem dL_pay_2 : decode cL_pay 2 = .ok (.aload_n 0, 1) := by decide +kernel
theorem dL_pay_3 : decode cL_pay 3 = .ok (.iload_n 1, 1) := by decide +kernel
theorem dL_pay_4 : decode cL_pay 4 = .ok (.invokevirtual 102, 3) := by decide +kernel
theorem dL_pay_7 : decode cL_pay 7 = .ok (.i2l, 1) := by decide +kernel
theorem dL_pay_8 : decode cL_pay 8 = .ok (.lastore, 1) := by decide +kernel
theorem dL_pay_9 : decode cL_pay 9 = .ok (.goto 6, 3) := by decide +kernel
theorem dL_pay_12 : decode cL_pay 12 = .ok (.astore_n 3, 1) := by decide +kernel
theorem dL_pay_13 : decode cL_pay 13 = .ok (.iconst 1, 1) := by decide +kernel
theorem dL_pay_14 : decode cL_pay 14 = .ok (.ireturn, 1) := by decide +kernel
theorem dL_pay_15 : decode cL_pay 15 = .ok (.iconst 0, 1) := by decide +kernel
theorem dL_pay_16 : decode cL_pay 16 = .ok (.ireturn, 1) := by decide +kernel
