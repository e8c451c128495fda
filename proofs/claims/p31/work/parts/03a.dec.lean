theorem dX4_init_0 : decode cX4_init 0 = .ok (.aload_n 0, 1) := by decide +kernel
theorem dX4_init_1 : decode cX4_init 1 = .ok (.invokespecial 3, 3) := by decide +kernel
theorem dX4_init_4 : decode cX4_init 4 = .ok (.aload_n 0, 1) := by decide +kernel
theorem dX4_init_5 : decode cX4_init 5 = .ok (.iload_n 2, 1) := by decide +kernel
theorem dX4_init_6 : decode cX4_init 6 = .ok (.putfield 9, 3) := by decide +kernel
theorem dX4_init_9 : decode cX4_init 9 = .ok (.aload_n 0, 1) := by decide +kernel
theorem dX4_init_10 : decode cX4_init 10 = .ok (.iload_n 1, 1) := by decide +kernel
theorem dX4_init_11 : decode cX4_init 11 = .ok (.ifCond .le 13, 3) := by decide +kernel
theorem dX4_init_14 : decode cX4_init 14 = .ok (.iload_n 2, 1) := by decide +kernel
theorem dX4_init_15 : decode cX4_init 15 = .ok (.ifCond .le 9, 3) := by decide +kernel
theorem dX4_init_18 : decode cX4_init 18 = .ok (.iload_n 1, 1) := by decide +kernel
theorem dX4_init_19 : decode cX4_init 19 = .ok (.iload_n 2, 1) := by decide +kernel
theorem dX4_init_20 : decode cX4_init 20 = .ok (.imul, 1) := by decide +kernel
theorem dX4_init_21 : decode cX4_init 21 = .ok (.goto 4, 3) := by decide +kernel
theorem dX4_init_24 : decode cX4_init 24 = .ok (.iconst 0, 1) := by decide +kernel
theorem dX4_init_25 : decode cX4_init 25 = .ok (.newarray .int, 2) := by decide +kernel
theorem dX4_init_27 : decode cX4_init 27 = .ok (.putfield 15, 3) := by decide +kernel
theorem dX4_init_30 : decode cX4_init 30 = .ok (.aload_n 0, 1) := by decide +kernel
theorem dX4_init_31 : decode cX4_init 31 = .ok (.iconst 0, 1) := by decide +kernel
theorem dX4_init_32 : decode cX4_init 32 = .ok (.putfield 19, 3) := by decide +kernel
theorem dX4_init_35 : decode cX4_init 35 = .ok (.return_, 1) := by decide +kernel
theorem dX4_size_0 : decode cX4_size 0 = .ok (.aload_n 0, 1) := by decide +kernel
theorem dX4_size_1 : decode cX4_size 1 = .ok (.getfield 19, 3) := by decide +kernel
theorem dX4_size_4 : decode cX4_size 4 = .ok (.ireturn, 1) := by decide +kernel
theorem dX4_get_0 : decode cX4_get 0 = .ok (.iload_n 1, 1) := by decide +kernel
theorem dX4_get_1 : decode cX4_get 1 = .ok (.ifCond .lt 23, 3) := by decide +kernel
theorem dX4_get_4 : decode cX4_get 4 = .ok (.iload_n 1, 1) := by decide +kernel
theorem dX4_get_5 : decode cX4_get 5 = .ok (.aload_n 0, 1) := by decide +kernel
theorem dX4_get_6 : decode cX4_get 6 = .ok (.getfield 19, 3) := by decide +kernel
theorem dX4_get_9 : decode cX4_get 9 = .ok (.if_icmp .ge 15, 3) := by decide +kernel
theorem dX4_get_12 : decode cX4_get 12 = .ok (.iload_n 2, 1) := by decide +kernel
theorem dX4_get_13 : decode cX4_get 13 = .ok (.ifCond .lt 11, 3) := by decide +kernel
theorem dX4_get_16 : decode cX4_get 16 = .ok (.iload_n 2, 1) := by decide +kernel
theorem dX4_get_17 : decode cX4_get 17 = .ok (.aload_n 0, 1) := by decide +kernel
theorem dX4_get_18 : decode cX4_get 18 = .ok (.getfield 9, 3) := by decide +kernel
theorem dX4_get_21 : decode cX4_get 21 = .ok (.if_icmp .lt 5, 3) := by decide +kernel
theorem dX4_get_24 : decode cX4_get 24 = .ok (.iconst 0, 1) := by decide +kernel
theorem dX4_get_25 : decode cX4_get 25 = .ok (.ireturn, 1) := by decide +kernel
theorem dX4_get_26 : decode cX4_get 26 = .ok (.iload_n 1, 1) := by decide +kernel
theorem dX4_get_27 : decode cX4_get 27 = .ok (.aload_n 0, 1) := by decide +kernel
theorem dX4_get_28 : decode cX4_get 28 = .ok (.getfield 9, 3) := by decide +kernel
theorem dX4_get_31 : decode cX4_get 31 = .ok (.imul, 1) := by decide +kernel
theorem dX4_get_32 : decode cX4_get 32 = .ok (.iload_n 2, 1) := by decide +kernel
theorem dX4_get_33 : decode cX4_get 33 = .ok (.iadd, 1) := by decide +kernel
theorem dX4_get_34 : decode cX4_get 34 = .ok (.istore_n 3, 1) := by decide +kernel
theorem dX4_get_35 : decode cX4_get 35 = .ok (.iload_n 3, 1) := by decide +kernel
theorem dX4_get_36 : decode cX4_get 36 = .ok (.ifCond .lt 21, 3) := by decide +kernel
theorem dX4_get_39 : decode cX4_get 39 = .ok (.iload_n 3, 1) := by decide +kernel
theorem dX4_get_40 : decode cX4_get 40 = .ok (.aload_n 0, 1) := by decide +kernel
theorem dX4_get_41 : decode cX4_get 41 = .ok (.getfield 15, 3) := by decide +kernel
theorem dX4_get_44 : decode cX4_get 44 = .ok (.arraylength, 1) := by decide +kernel
theorem dX4_get_45 : decode cX4_get 45 = .ok (.if_icmp .ge 12, 3) := by decide +kernel
theorem dX4_get_48 : decode cX4_get 48 = .ok (.aload_n 0, 1) := by decide +kernel
theorem dX4_get_49 : decode cX4_get 49 = .ok (.getfield 15, 3) := by decide +kernel
theorem dX4_get_52 : decode cX4_get 52 = .ok (.iload_n 3, 1) := by decide +kernel
theorem dX4_get_53 : decode cX4_get 53 = .ok (.iaload, 1) := by decide +kernel
theorem dX4_get_54 : decode cX4_get 54 = .ok (.goto 4, 3) := by decide +kernel
theorem dX4_get_57 : decode cX4_get 57 = .ok (.iconst 0, 1) := by decide +kernel
theorem dX4_get_58 : decode cX4_get 58 = .ok (.ireturn, 1) := by decide +kernel
theorem dX4_set_0 : decode cX4_set 0 = .ok (.iload_n 1, 1) := by decide +kernel
theorem dX4_set_1 : decode cX4_set 1 = .ok (.ifCond .lt 23, 3) := by decide +kernel
theorem dX4_set_4 : decode cX4_set 4 = .ok (.iload_n 1, 1) := by decide +kernel
theorem dX4_set_5 : decode cX4_set 5 = .ok (.aload_n 0, 1) := by decide +kernel
theorem dX4_set_6 : decode cX4_set 6 = .ok (.getfield 19, 3) := by decide +kernel
theorem dX4_set_9 : decode cX4_set 9 = .ok (.if_icmp .ge 15, 3) := by decide +kernel
theorem dX4_set_12 : decode cX4_set 12 = .ok (.iload_n 2, 1) := by decide +kernel
theorem dX4_set_13 : decode cX4_set 13 = .ok (.ifCond .lt 11, 3) := by decide +kernel
theorem dX4_set_16 : decode cX4_set 16 = .ok (.iload_n 2, 1) := by decide +kernel
theorem dX4_set_17 : decode cX4_set 17 = .ok (.aload_n 0, 1) := by decide +kernel
theorem dX4_set_18 : decode cX4_set 18 = .ok (.getfield 9, 3) := by decide +kernel
theorem dX4_set_21 : decode cX4_set 21 = .ok (.if_icmp .lt 4, 3) := by decide +kernel
theorem dX4_set_24 : decode cX4_set 24 = .ok (.return_, 1) := by decide +kernel
theorem dX4_set_25 : decode cX4_set 25 = .ok (.iload_n 1, 1) := by decide +kernel
theorem dX4_set_26 : decode cX4_set 26 = .ok (.aload_n 0, 1) := by decide +kernel
theorem dX4_set_27 : decode cX4_set 27 = .ok (.getfield 9, 3) := by decide +kernel
theorem dX4_set_30 : decode cX4_set 30 = .ok (.imul, 1) := by decide +kernel
theorem dX4_set_31 : decode cX4_set 31 = .ok (.iload_n 2, 1) := by decide +kernel
theorem dX4_set_32 : decode cX4_set 32 = .ok (.iadd, 1) := by decide +kernel
theorem dX4_set_33 : decode cX4_set 33 = .ok (.istore 4, 2) := by decide +kernel
theorem dX4_set_35 : decode cX4_set 35 = .ok (.iload 4, 2) := by decide +kernel
theorem dX4_set_37 : decode cX4_set 37 = .ok (.ifCond .lt 21, 3) := by decide +kernel
theorem dX4_set_40 : decode cX4_set 40 = .ok (.iload 4, 2) := by decide +kernel
theorem dX4_set_42 : decode cX4_set 42 = .ok (.aload_n 0, 1) := by decide +kernel
theorem dX4_set_43 : decode cX4_set 43 = .ok (.getfield 15, 3) := by decide +kernel
theorem dX4_set_46 : decode cX4_set 46 = .ok (.arraylength, 1) := by decide +kernel
theorem dX4_set_47 : decode cX4_set 47 = .ok (.if_icmp .ge 11, 3) := by decide +kernel
theorem dX4_set_50 : decode cX4_set 50 = .ok (.aload_n 0, 1) := by decide +kernel
theorem dX4_set_51 : decode cX4_set 51 = .ok (.getfield 15, 3) := by decide +kernel
theorem dX4_set_54 : decode cX4_set 54 = .ok (.iload 4, 2) := by decide +kernel
theorem dX4_set_56 : decode cX4_set 56 = .ok (.iload_n 3, 1) := by decide +kernel
theorem dX4_set_57 : decode cX4_set 57 = .ok (.iastore, 1) := by decide +kernel
theorem dX4_set_58 : decode cX4_set 58 = .ok (.return_, 1) := by decide +kernel
theorem dX4_insert_0 : decode cX4_insert 0 = .ok (.iload_n 1, 1) := by decide +kernel
theorem dX4_insert_1 : decode cX4_insert 1 = .ok (.ifCond .lt 30, 3) := by decide +kernel
theorem dX4_insert_4 : decode cX4_insert 4 = .ok (.iload_n 1, 1) := by decide +kernel
theorem dX4_insert_5 : decode cX4_insert 5 = .ok (.aload_n 0, 1) := by decide +kernel
theorem dX4_insert_6 : decode cX4_insert 6 = .ok (.getfield 19, 3) := by decide +kernel
theorem dX4_insert_9 : decode cX4_insert 9 = .ok (.if_icmp .gt 22, 3) := by decide +kernel
theorem dX4_insert_12 : decode cX4_insert 12 = .ok (.aload_n 0, 1) := by decide +kernel
theorem dX4_insert_13 : decode cX4_insert 13 = .ok (.getfield 19, 3) := by decide +kernel
theorem dX4_insert_16 : decode cX4_insert 16 = .ok (.iconst 1, 1) := by decide +kernel
theorem dX4_insert_17 : decode cX4_insert 17 = .ok (.iadd, 1) := by decide +kernel
theorem dX4_insert_18 : decode cX4_insert 18 = .ok (.aload_n 0, 1) := by decide +kernel
theorem dX4_insert_19 : decode cX4_insert 19 = .ok (.getfield 9, 3) := by decide +kernel
theorem dX4_insert_22 : decode cX4_insert 22 = .ok (.imul, 1) := by decide +kernel
theorem dX4_insert_23 : decode cX4_insert 23 = .ok (.aload_n 0, 1) := by decide +kernel
theorem dX4_insert_24 : decode cX4_insert 24 = .ok (.getfield 15, 3) := by decide +kernel
theorem dX4_insert_27 : decode cX4_insert 27 = .ok (.arraylength, 1) := by decide +kernel
theorem dX4_insert_28 : decode cX4_insert 28 = .ok (.if_icmp .le 4, 3) := by decide +kernel
theorem dX4_insert_31 : decode cX4_insert 31 = .ok (.return_, 1) := by decide +kernel
theorem dX4_insert_32 : decode cX4_insert 32 = .ok (.aload_n 0, 1) := by decide +kernel
theorem dX4_insert_33 : decode cX4_insert 33 = .ok (.getfield 19, 3) := by decide +kernel
theorem dX4_insert_36 : decode cX4_insert 36 = .ok (.iconst 1, 1) := by decide +kernel
theorem dX4_insert_37 : decode cX4_insert 37 = .ok (.iadd, 1) := by decide +kernel
theorem dX4_insert_38 : decode cX4_insert 38 = .ok (.aload_n 0, 1) := by decide +kernel
theorem dX4_insert_39 : decode cX4_insert 39 = .ok (.getfield 9, 3) := by decide +kernel
theorem dX4_insert_42 : decode cX4_insert 42 = .ok (.imul, 1) := by decide +kernel
theorem dX4_insert_43 : decode cX4_insert 43 = .ok (.iconst 1, 1) := by decide +kernel
theorem dX4_insert_44 : decode cX4_insert 44 = .ok (.isub, 1) := by decide +kernel
theorem dX4_insert_45 : decode cX4_insert 45 = .ok (.istore_n 2, 1) := by decide +kernel
theorem dX4_insert_46 : decode cX4_insert 46 = .ok (.iload_n 2, 1) := by decide +kernel
theorem dX4_insert_47 : decode cX4_insert 47 = .ok (.iload_n 1, 1) := by decide +kernel
theorem dX4_insert_48 : decode cX4_insert 48 = .ok (.iconst 1, 1) := by decide +kernel
theorem dX4_insert_49 : decode cX4_insert 49 = .ok (.iadd, 1) := by decide +kernel
theorem dX4_insert_50 : decode cX4_insert 50 = .ok (.aload_n 0, 1) := by decide +kernel
theorem dX4_insert_51 : decode cX4_insert 51 = .ok (.getfield 9, 3) := by decide +kernel
theorem dX4_insert_54 : decode cX4_insert 54 = .ok (.imul, 1) := by decide +kernel
theorem dX4_insert_55 : decode cX4_insert 55 = .ok (.if_icmp .lt 26, 3) := by decide +kernel
theorem dX4_insert_58 : decode cX4_insert 58 = .ok (.aload_n 0, 1) := by decide +kernel
theorem dX4_insert_59 : decode cX4_insert 59 = .ok (.getfield 15, 3) := by decide +kernel
theorem dX4_insert_62 : decode cX4_insert 62 = .ok (.iload_n 2, 1) := by decide +kernel
theorem dX4_insert_63 : decode cX4_insert 63 = .ok (.aload_n 0, 1) := by decide +kernel
theorem dX4_insert_64 : decode cX4_insert 64 = .ok (.getfield 15, 3) := by decide +kernel
theorem dX4_insert_67 : decode cX4_insert 67 = .ok (.iload_n 2, 1) := by decide +kernel
theorem dX4_insert_68 : decode cX4_insert 68 = .ok (.aload_n 0, 1) := by decide +kernel
theorem dX4_insert_69 : decode cX4_insert 69 = .ok (.getfield 9, 3) := by decide +kernel
theorem dX4_insert_72 : decode cX4_insert 72 = .ok (.isub, 1) := by decide +kernel
theorem dX4_insert_73 : decode cX4_insert 73 = .ok (.iaload, 1) := by decide +kernel
theorem dX4_insert_74 : decode cX4_insert 74 = .ok (.iastore, 1) := by decide +kernel
theorem dX4_insert_75 : decode cX4_insert 75 = .ok (.iinc 2 (-1), 3) := by decide +kernel
theorem dX4_insert_78 : decode cX4_insert 78 = .ok (.goto (-32), 3) := by decide +kernel
theorem dX4_insert_81 : decode cX4_insert 81 = .ok (.aload_n 0, 1) := by decide +kernel
theorem dX4_insert_82 : decode cX4_insert 82 = .ok (.dup, 1) := by decide +kernel
theorem dX4_insert_83 : decode cX4_insert 83 = .ok (.getfield 19, 3) := by decide +kernel
theorem dX4_insert_86 : decode cX4_insert 86 = .ok (.iconst 1, 1) := by decide +kernel
theorem dX4_insert_87 : decode cX4_insert 87 = .ok (.iadd, 1) := by decide +kernel
theorem dX4_insert_88 : decode cX4_insert 88 = .ok (.putfield 19, 3) := by decide +kernel
theorem dX4_insert_91 : decode cX4_insert 91 = .ok (.return_, 1) := by decide +kernel
theorem dX4_addSpan_0 : decode cX4_addSpan 0 = .ok (.aload_n 0, 1) := by decide +kernel
theorem dX4_addSpan_1 : decode cX4_addSpan 1 = .ok (.getfield 19, 3) := by decide +kernel
theorem dX4_addSpan_4 : decode cX4_addSpan 4 = .ok (.istore_n 3, 1) := by decide +kernel
theorem dX4_addSpan_5 : decode cX4_addSpan 5 = .ok (.aload_n 0, 1) := by decide +kernel
theorem dX4_addSpan_6 : decode cX4_addSpan 6 = .ok (.iload_n 3, 1) := by decide +kernel
theorem dX4_addSpan_7 : decode cX4_addSpan 7 = .ok (.invokevirtual 22, 3) := by decide +kernel
theorem dX4_addSpan_10 : decode cX4_addSpan 10 = .ok (.aload_n 0, 1) := by decide +kernel
theorem dX4_addSpan_11 : decode cX4_addSpan 11 = .ok (.iload_n 3, 1) := by decide +kernel
theorem dX4_addSpan_12 : decode cX4_addSpan 12 = .ok (.iconst 0, 1) := by decide +kernel
theorem dX4_addSpan_13 : decode cX4_addSpan 13 = .ok (.iload_n 1, 1) := by decide +kernel
theorem dX4_addSpan_14 : decode cX4_addSpan 14 = .ok (.invokevirtual 26, 3) := by decide +kernel
theorem dX4_addSpan_17 : decode cX4_addSpan 17 = .ok (.aload_n 0, 1) := by decide +kernel
theorem dX4_addSpan_18 : decode cX4_addSpan 18 = .ok (.iload_n 3, 1) := by decide +kernel
theorem dX4_addSpan_19 : decode cX4_addSpan 19 = .ok (.iconst 1, 1) := by decide +kernel
theorem dX4_addSpan_20 : decode cX4_addSpan 20 = .ok (.iload_n 2, 1) := by decide +kernel
theorem dX4_addSpan_21 : decode cX4_addSpan 21 = .ok (.invokevirtual 26, 3) := by decide +kernel
theorem dX4_addSpan_24 : decode cX4_addSpan 24 = .ok (.return_, 1) := by decide +kernel
theorem dX4_clear_0 : decode cX4_clear 0 = .ok (.aload_n 0, 1) := by decide +kernel
theorem dX4_clear_1 : decode cX4_clear 1 = .ok (.iconst 0, 1) := by decide +kernel
theorem dX4_clear_2 : decode cX4_clear 2 = .ok (.putfield 19, 3) := by decide +kernel
theorem dX4_clear_5 : decode cX4_clear 5 = .ok (.return_, 1) := by decide +kernel
theorem dX0_init_0 : decode cX0_init 0 = .ok (.aload_n 0, 1) := by decide +kernel
theorem dX0_init_1 : decode cX0_init 1 = .ok (.invokespecial 3, 3) := by decide +kernel
theorem dX0_init_4 : decode cX0_init 4 = .ok (.aload_n 0, 1) := by decide +kernel
theorem dX0_init_5 : decode cX0_init 5 = .ok (.iload_n 1, 1) := by decide +kernel
theorem dX0_init_6 : decode cX0_init 6 = .ok (.putfield 9, 3) := by decide +kernel
theorem dX0_init_9 : decode cX0_init 9 = .ok (.aload_n 0, 1) := by decide +kernel
theorem dX0_init_10 : decode cX0_init 10 = .ok (.iconst 0, 1) := by decide +kernel
theorem dX0_init_11 : decode cX0_init 11 = .ok (.putfield 15, 3) := by decide +kernel
theorem dX0_init_14 : decode cX0_init 14 = .ok (.aload_n 0, 1) := by decide +kernel
theorem dX0_init_15 : decode cX0_init 15 = .ok (.lconst 0, 1) := by decide +kernel
theorem dX0_init_16 : decode cX0_init 16 = .ok (.putfield 18, 3) := by decide +kernel
theorem dX0_init_19 : decode cX0_init 19 = .ok (.aload_n 0, 1) := by decide +kernel
theorem dX0_init_20 : decode cX0_init 20 = .ok (.new 22, 3) := by decide +kernel
theorem dX0_init_23 : decode cX0_init 23 = .ok (.dup, 1) := by decide +kernel
theorem dX0_init_24 : decode cX0_init 24 = .ok (.bipush 40, 2) := by decide +kernel
theorem dX0_init_26 : decode cX0_init 26 = .ok (.iconst 2, 1) := by decide +kernel
theorem dX0_init_27 : decode cX0_init 27 = .ok (.invokespecial 24, 3) := by decide +kernel
theorem dX0_init_30 : decode cX0_init 30 = .ok (.putfield 27, 3) := by decide +kernel
theorem dX0_init_33 : decode cX0_init 33 = .ok (.aload_n 0, 1) := by decide +kernel
theorem dX0_init_34 : decode cX0_init 34 = .ok (.new 22, 3) := by decide +kernel
theorem dX0_init_37 : decode cX0_init 37 = .ok (.dup, 1) := by decide +kernel
theorem dX0_init_38 : decode cX0_init 38 = .ok (.bipush 20, 2) := by decide +kernel
theorem dX0_init_40 : decode cX0_init 40 = .ok (.iconst 2, 1) := by decide +kernel
theorem dX0_init_41 : decode cX0_init 41 = .ok (.invokespecial 24, 3) := by decide +kernel
theorem dX0_init_44 : decode cX0_init 44 = .ok (.putfield 31, 3) := by decide +kernel
theorem dX0_init_47 : decode cX0_init 47 = .ok (.aload_n 0, 1) := by decide +kernel
theorem dX0_init_48 : decode cX0_init 48 = .ok (.new 22, 3) := by decide +kernel
theorem dX0_init_51 : decode cX0_init 51 = .ok (.dup, 1) := by decide +kernel
theorem dX0_init_52 : decode cX0_init 52 = .ok (.bipush 20, 2) := by decide +kernel
theorem dX0_init_54 : decode cX0_init 54 = .ok (.iconst 2, 1) := by decide +kernel
theorem dX0_init_55 : decode cX0_init 55 = .ok (.invokespecial 24, 3) := by decide +kernel
theorem dX0_init_58 : decode cX0_init 58 = .ok (.putfield 34, 3) := by decide +kernel
theorem dX0_init_61 : decode cX0_init 61 = .ok (.return_, 1) := by decide +kernel
theorem dX0_beginNextWeek_0 : decode cX0_beginNextWeek 0 = .ok (.aload_n 0, 1) := by decide +kernel
theorem dX0_beginNextWeek_1 : decode cX0_beginNextWeek 1 = .ok (.dup, 1) := by decide +kernel
theorem dX0_beginNextWeek_2 : decode cX0_beginNextWeek 2 = .ok (.getfield 18, 3) := by decide +kernel
theorem dX0_beginNextWeek_5 : decode cX0_beginNextWeek 5 = .ok (.iload_n 1, 1) := by decide +kernel
theorem dX0_beginNextWeek_6 : decode cX0_beginNextWeek 6 = .ok (.i2l, 1) := by decide +kernel
theorem dX0_beginNextWeek_7 : decode cX0_beginNextWeek 7 = .ok (.ladd, 1) := by decide +kernel
theorem dX0_beginNextWeek_8 : decode cX0_beginNextWeek 8 = .ok (.putfield 18, 3) := by decide +kernel
theorem dX0_beginNextWeek_11 : decode cX0_beginNextWeek 11 = .ok (.aload_n 0, 1) := by decide +kernel
theorem dX0_beginNextWeek_12 : decode cX0_beginNextWeek 12 = .ok (.dup, 1) := by decide +kernel
theorem dX0_beginNextWeek_13 : decode cX0_beginNextWeek 13 = .ok (.getfield 15, 3) := by decide +kernel
theorem dX0_beginNextWeek_16 : decode cX0_beginNextWeek 16 = .ok (.iconst 1, 1) := by decide +kernel
theorem dX0_beginNextWeek_17 : decode cX0_beginNextWeek 17 = .ok (.iadd, 1) := by decide +kernel
theorem dX0_beginNextWeek_18 : decode cX0_beginNextWeek 18 = .ok (.putfield 15, 3) := by decide +kernel
theorem dX0_beginNextWeek_21 : decode cX0_beginNextWeek 21 = .ok (.aload_n 0, 1) := by decide +kernel
theorem dX0_beginNextWeek_22 : decode cX0_beginNextWeek 22 = .ok (.getfield 27, 3) := by decide +kernel
theorem dX0_beginNextWeek_25 : decode cX0_beginNextWeek 25 = .ok (.invokevirtual 37, 3) := by decide +kernel
theorem dX0_beginNextWeek_28 : decode cX0_beginNextWeek 28 = .ok (.aload_n 0, 1) := by decide +kernel
theorem dX0_beginNextWeek_29 : decode cX0_beginNextWeek 29 = .ok (.getfield 31, 3) := by decide +kernel
theorem dX0_beginNextWeek_32 : decode cX0_beginNextWeek 32 = .ok (.invokevirtual 37, 3) := by decide +kernel
theorem dX0_beginNextWeek_35 : decode cX0_beginNextWeek 35 = .ok (.aload_n 0, 1) := by decide +kernel
theorem dX0_beginNextWeek_36 : decode cX0_beginNextWeek 36 = .ok (.getfield 34, 3) := by decide +kernel
theorem dX0_beginNextWeek_39 : decode cX0_beginNextWeek 39 = .ok (.invokevirtual 37, 3) := by decide +kernel
theorem dX0_beginNextWeek_42 : decode cX0_beginNextWeek 42 = .ok (.return_, 1) := by decide +kernel
theorem dX2_init_0 : decode cX2_init 0 = .ok (.aload_n 0, 1) := by decide +kernel
theorem dX2_init_1 : decode cX2_init 1 = .ok (.invokespecial 3, 3) := by decide +kernel
theorem dX2_init_4 : decode cX2_init 4 = .ok (.aload_n 0, 1) := by decide +kernel
theorem dX2_init_5 : decode cX2_init 5 = .ok (.new 9, 3) := by decide +kernel
theorem dX2_init_8 : decode cX2_init 8 = .ok (.dup, 1) := by decide +kernel
theorem dX2_init_9 : decode cX2_init 9 = .ok (.bipush 6, 2) := by decide +kernel
theorem dX2_init_11 : decode cX2_init 11 = .ok (.iconst 4, 1) := by decide +kernel
theorem dX2_init_12 : decode cX2_init 12 = .ok (.invokespecial 11, 3) := by decide +kernel
theorem dX2_init_15 : decode cX2_init 15 = .ok (.putfield 14, 3) := by decide +kernel
theorem dX2_init_18 : decode cX2_init 18 = .ok (.return_, 1) := by decide +kernel
theorem dX2_add_0 : decode cX2_add 0 = .ok (.aload_n 0, 1) := by decide +kernel
theorem dX2_add_1 : decode cX2_add 1 = .ok (.getfield 14, 3) := by decide +kernel
theorem dX2_add_4 : decode cX2_add 4 = .ok (.invokevirtual 20, 3) := by decide +kernel
theorem dX2_add_7 : decode cX2_add 7 = .ok (.istore 5, 2) := by decide +kernel
theorem dX2_add_9 : decode cX2_add 9 = .ok (.aload_n 0, 1) := by decide +kernel
theorem dX2_add_10 : decode cX2_add 10 = .ok (.getfield 14, 3) := by decide +kernel
theorem dX2_add_13 : decode cX2_add 13 = .ok (.iload 5, 2) := by decide +kernel
theorem dX2_add_15 : decode cX2_add 15 = .ok (.invokevirtual 24, 3) := by decide +kernel
theorem dX2_add_18 : decode cX2_add 18 = .ok (.aload_n 0, 1) := by decide +kernel
theorem dX2_add_19 : decode cX2_add 19 = .ok (.getfield 14, 3) := by decide +kernel
theorem dX2_add_22 : decode cX2_add 22 = .ok (.iload 5, 2) := by decide +kernel
theorem dX2_add_24 : decode cX2_add 24 = .ok (.iconst 0, 1) := by decide +kernel
theorem dX2_add_25 : decode cX2_add 25 = .ok (.iload_n 1, 1) := by decide +kernel
theorem dX2_add_26 : decode cX2_add 26 = .ok (.invokevirtual 28, 3) := by decide +kernel
theorem dX2_add_29 : decode cX2_add 29 = .ok (.aload_n 0, 1) := by decide +kernel
theorem dX2_add_30 : decode cX2_add 30 = .ok (.getfield 14, 3) := by decide +kernel
theorem dX2_add_33 : decode cX2_add 33 = .ok (.iload 5, 2) := by decide +kernel
theorem dX2_add_35 : decode cX2_add 35 = .ok (.iconst 1, 1) := by decide +kernel
theorem dX2_add_36 : decode cX2_add 36 = .ok (.iload_n 2, 1) := by decide +kernel
theorem dX2_add_37 : decode cX2_add 37 = .ok (.invokevirtual 28, 3) := by decide +kernel
theorem dX2_add_40 : decode cX2_add 40 = .ok (.aload_n 0, 1) := by decide +kernel
theorem dX2_add_41 : decode cX2_add 41 = .ok (.getfield 14, 3) := by decide +kernel
theorem dX2_add_44 : decode cX2_add 44 = .ok (.iload 5, 2) := by decide +kernel
theorem dX2_add_46 : decode cX2_add 46 = .ok (.iconst 2, 1) := by decide +kernel
theorem dX2_add_47 : decode cX2_add 47 = .ok (.iload_n 3, 1) := by decide +kernel
theorem dX2_add_48 : decode cX2_add 48 = .ok (.invokevirtual 28, 3) := by decide +kernel
theorem dX2_add_51 : decode cX2_add 51 = .ok (.aload_n 0, 1) := by decide +kernel
theorem dX2_add_52 : decode cX2_add 52 = .ok (.getfield 14, 3) := by decide +kernel
theorem dX2_add_55 : decode cX2_add 55 = .ok (.iload 5, 2) := by decide +kernel
theorem dX2_add_57 : decode cX2_add 57 = .ok (.iconst 3, 1) := by decide +kernel
theorem dX2_add_58 : decode cX2_add 58 = .ok (.iload 4, 2) := by decide +kernel
theorem dX2_add_60 : decode cX2_add 60 = .ok (.invokevirtual 28, 3) := by decide +kernel
theorem dX2_add_63 : decode cX2_add 63 = .ok (.iload 5, 2) := by decide +kernel
theorem dX2_add_65 : decode cX2_add 65 = .ok (.ireturn, 1) := by decide +kernel
theorem dX2_payFor_0 : decode cX2_payFor 0 = .ok (.iconst 0, 1) := by decide +kernel
theorem dX2_payFor_1 : decode cX2_payFor 1 = .ok (.istore_n 2, 1) := by decide +kernel
theorem dX2_payFor_2 : decode cX2_payFor 2 = .ok (.iconst 0, 1) := by decide +kernel
theorem dX2_payFor_3 : decode cX2_payFor 3 = .ok (.istore_n 3, 1) := by decide +kernel
theorem dX2_payFor_4 : decode cX2_payFor 4 = .ok (.iload_n 3, 1) := by decide +kernel
theorem dX2_payFor_5 : decode cX2_payFor 5 = .ok (.aload_n 1, 1) := by decide +kernel
theorem dX2_payFor_6 : decode cX2_payFor 6 = .ok (.invokevirtual 20, 3) := by decide +kernel
theorem dX2_payFor_9 : decode cX2_payFor 9 = .ok (.if_icmp .ge 28, 3) := by decide +kernel
theorem dX2_payFor_12 : decode cX2_payFor 12 = .ok (.iload_n 2, 1) := by decide +kernel
theorem dX2_payFor_13 : decode cX2_payFor 13 = .ok (.aload_n 0, 1) := by decide +kernel
theorem dX2_payFor_14 : decode cX2_payFor 14 = .ok (.aload_n 1, 1) := by decide +kernel
theorem dX2_payFor_15 : decode cX2_payFor 15 = .ok (.iload_n 3, 1) := by decide +kernel
theorem dX2_payFor_16 : decode cX2_payFor 16 = .ok (.iconst 0, 1) := by decide +kernel
theorem dX2_payFor_17 : decode cX2_payFor 17 = .ok (.invokevirtual 32, 3) := by decide +kernel
theorem dX2_payFor_20 : decode cX2_payFor 20 = .ok (.aload_n 1, 1) := by decide +kernel
theorem dX2_payFor_21 : decode cX2_payFor 21 = .ok (.iload_n 3, 1) := by decide +kernel
theorem dX2_payFor_22 : decode cX2_payFor 22 = .ok (.iconst 1, 1) := by decide +kernel
theorem dX2_payFor_23 : decode cX2_payFor 23 = .ok (.invokevirtual 32, 3) := by decide +kernel
theorem dX2_payFor_26 : decode cX2_payFor 26 = .ok (.invokevirtual 36, 3) := by decide +kernel
theorem dX2_payFor_29 : decode cX2_payFor 29 = .ok (.iadd, 1) := by decide +kernel
theorem dX2_payFor_30 : decode cX2_payFor 30 = .ok (.istore_n 2, 1) := by decide +kernel
theorem dX2_payFor_31 : decode cX2_payFor 31 = .ok (.iinc 3 1, 3) := by decide +kernel
theorem dX2_payFor_34 : decode cX2_payFor 34 = .ok (.goto (-30), 3) := by decide +kernel
theorem dX2_payFor_37 : decode cX2_payFor 37 = .ok (.iload_n 2, 1) := by decide +kernel
theorem dX2_payFor_38 : decode cX2_payFor 38 = .ok (.bipush 30, 2) := by decide +kernel
theorem dX2_payFor_40 : decode cX2_payFor 40 = .ok (.iadd, 1) := by decide +kernel
theorem dX2_payFor_41 : decode cX2_payFor 41 = .ok (.bipush 60, 2) := by decide +kernel
theorem dX2_payFor_43 : decode cX2_payFor 43 = .ok (.idiv, 1) := by decide +kernel
theorem dX2_payFor_44 : decode cX2_payFor 44 = .ok (.ireturn, 1) := by decide +kernel
theorem dX2_sumOver_0 : decode cX2_sumOver 0 = .ok (.iconst 0, 1) := by decide +kernel
theorem dX2_sumOver_1 : decode cX2_sumOver 1 = .ok (.istore_n 3, 1) := by decide +kernel
theorem dX2_sumOver_2 : decode cX2_sumOver 2 = .ok (.iload_n 1, 1) := by decide +kernel
theorem dX2_sumOver_3 : decode cX2_sumOver 3 = .ok (.istore 4, 2) := by decide +kernel
theorem dX2_sumOver_5 : decode cX2_sumOver 5 = .ok (.iconst 0, 1) := by decide +kernel
theorem dX2_sumOver_6 : decode cX2_sumOver 6 = .ok (.istore 5, 2) := by decide +kernel
theorem dX2_sumOver_8 : decode cX2_sumOver 8 = .ok (.iload 5, 2) := by decide +kernel
theorem dX2_sumOver_10 : decode cX2_sumOver 10 = .ok (.sipush 1440, 3) := by decide +kernel
theorem dX2_sumOver_13 : decode cX2_sumOver 13 = .ok (.if_icmp .ge 71, 3) := by decide +kernel
theorem dX2_sumOver_16 : decode cX2_sumOver 16 = .ok (.iload 4, 2) := by decide +kernel
theorem dX2_sumOver_18 : decode cX2_sumOver 18 = .ok (.iload_n 2, 1) := by decide +kernel
theorem dX2_sumOver_19 : decode cX2_sumOver 19 = .ok (.if_icmp .ge 65, 3) := by decide +kernel
theorem dX2_sumOver_22 : decode cX2_sumOver 22 = .ok (.iload 4, 2) := by decide +kernel
theorem dX2_sumOver_24 : decode cX2_sumOver 24 = .ok (.sipush 1440, 3) := by decide +kernel
theorem dX2_sumOver_27 : decode cX2_sumOver 27 = .ok (.idiv, 1) := by decide +kernel
theorem dX2_sumOver_28 : decode cX2_sumOver 28 = .ok (.istore 6, 2) := by decide +kernel
theorem dX2_sumOver_30 : decode cX2_sumOver 30 = .ok (.iload_n 2, 1) := by decide +kernel
theorem dX2_sumOver_31 : decode cX2_sumOver 31 = .ok (.iload 6, 2) := by decide +kernel
theorem dX2_sumOver_33 : decode cX2_sumOver 33 = .ok (.sipush 1440, 3) := by decide +kernel
theorem dX2_sumOver_36 : decode cX2_sumOver 36 = .ok (.imul, 1) := by decide +kernel
theorem dX2_sumOver_37 : decode cX2_sumOver 37 = .ok (.aload_n 0, 1) := by decide +kernel
theorem dX2_sumOver_38 : decode cX2_sumOver 38 = .ok (.iload 4, 2) := by decide +kernel
theorem dX2_sumOver_40 : decode cX2_sumOver 40 = .ok (.sipush 1440, 3) := by decide +kernel
theorem dX2_sumOver_43 : decode cX2_sumOver 43 = .ok (.irem, 1) := by decide +kernel
theorem dX2_sumOver_44 : decode cX2_sumOver 44 = .ok (.invokevirtual 39, 3) := by decide +kernel
theorem dX2_sumOver_47 : decode cX2_sumOver 47 = .ok (.iadd, 1) := by decide +kernel
theorem dX2_sumOver_48 : decode cX2_sumOver 48 = .ok (.invokestatic 43, 3) := by decide +kernel
theorem dX2_sumOver_51 : decode cX2_sumOver 51 = .ok (.istore 7, 2) := by decide +kernel
theorem dX2_sumOver_53 : decode cX2_sumOver 53 = .ok (.iload_n 3, 1) := by decide +kernel
theorem dX2_sumOver_54 : decode cX2_sumOver 54 = .ok (.aload_n 0, 1) := by decide +kernel
theorem dX2_sumOver_55 : decode cX2_sumOver 55 = .ok (.iload 6, 2) := by decide +kernel
theorem dX2_sumOver_57 : decode cX2_sumOver 57 = .ok (.iload 4, 2) := by decide +kernel
theorem dX2_sumOver_59 : decode cX2_sumOver 59 = .ok (.sipush 1440, 3) := by decide +kernel
theorem dX2_sumOver_62 : decode cX2_sumOver 62 = .ok (.irem, 1) := by decide +kernel
theorem dX2_sumOver_63 : decode cX2_sumOver 63 = .ok (.invokevirtual 48, 3) := by decide +kernel
theorem dX2_sumOver_66 : decode cX2_sumOver 66 = .ok (.iload 7, 2) := by decide +kernel
theorem dX2_sumOver_68 : decode cX2_sumOver 68 = .ok (.iload 4, 2) := by decide +kernel
theorem dX2_sumOver_70 : decode cX2_sumOver 70 = .ok (.isub, 1) := by decide +kernel
theorem dX2_sumOver_71 : decode cX2_sumOver 71 = .ok (.imul, 1) := by decide +kernel
theorem dX2_sumOver_72 : decode cX2_sumOver 72 = .ok (.iadd, 1) := by decide +kernel
theorem dX2_sumOver_73 : decode cX2_sumOver 73 = .ok (.istore_n 3, 1) := by decide +kernel
theorem dX2_sumOver_74 : decode cX2_sumOver 74 = .ok (.iload 7, 2) := by decide +kernel
theorem dX2_sumOver_76 : decode cX2_sumOver 76 = .ok (.istore 4, 2) := by decide +kernel
theorem dX2_sumOver_78 : decode cX2_sumOver 78 = .ok (.iinc 5 1, 3) := by decide +kernel
theorem dX2_sumOver_81 : decode cX2_sumOver 81 = .ok (.goto (-73), 3) := by decide +kernel
theorem dX2_sumOver_84 : decode cX2_sumOver 84 = .ok (.iload_n 3, 1) := by decide +kernel
theorem dX2_sumOver_85 : decode cX2_sumOver 85 = .ok (.ireturn, 1) := by decide +kernel
theorem dX2_nextChange_0 : decode cX2_nextChange 0 = .ok (.sipush 1440, 3) := by decide +kernel
theorem dX2_nextChange_3 : decode cX2_nextChange 3 = .ok (.istore_n 2, 1) := by decide +kernel
theorem dX2_nextChange_4 : decode cX2_nextChange 4 = .ok (.iconst 0, 1) := by decide +kernel
theorem dX2_nextChange_5 : decode cX2_nextChange 5 = .ok (.istore_n 3, 1) := by decide +kernel
theorem dX2_nextChange_6 : decode cX2_nextChange 6 = .ok (.iload_n 3, 1) := by decide +kernel
theorem dX2_nextChange_7 : decode cX2_nextChange 7 = .ok (.aload_n 0, 1) := by decide +kernel
theorem dX2_nextChange_8 : decode cX2_nextChange 8 = .ok (.getfield 14, 3) := by decide +kernel
theorem dX2_nextChange_11 : decode cX2_nextChange 11 = .ok (.invokevirtual 20, 3) := by decide +kernel
theorem dX2_nextChange_14 : decode cX2_nextChange 14 = .ok (.if_icmp .ge 65, 3) := by decide +kernel
theorem dX2_nextChange_17 : decode cX2_nextChange 17 = .ok (.aload_n 0, 1) := by decide +kernel
theorem dX2_nextChange_18 : decode cX2_nextChange 18 = .ok (.getfield 14, 3) := by decide +kernel
theorem dX2_nextChange_21 : decode cX2_nextChange 21 = .ok (.iload_n 3, 1) := by decide +kernel
theorem dX2_nextChange_22 : decode cX2_nextChange 22 = .ok (.iconst 1, 1) := by decide +kernel
theorem dX2_nextChange_23 : decode cX2_nextChange 23 = .ok (.invokevirtual 32, 3) := by decide +kernel
theorem dX2_nextChange_26 : decode cX2_nextChange 26 = .ok (.istore 4, 2) := by decide +kernel
theorem dX2_nextChange_28 : decode cX2_nextChange 28 = .ok (.aload_n 0, 1) := by decide +kernel
theorem dX2_nextChange_29 : decode cX2_nextChange 29 = .ok (.getfield 14, 3) := by decide +kernel
theorem dX2_nextChange_32 : decode cX2_nextChange 32 = .ok (.iload_n 3, 1) := by decide +kernel
theorem dX2_nextChange_33 : decode cX2_nextChange 33 = .ok (.iconst 2, 1) := by decide +kernel
theorem dX2_nextChange_34 : decode cX2_nextChange 34 = .ok (.invokevirtual 32, 3) := by decide +kernel
theorem dX2_nextChange_37 : decode cX2_nextChange 37 = .ok (.istore 5, 2) := by decide +kernel
theorem dX2_nextChange_39 : decode cX2_nextChange 39 = .ok (.iload 4, 2) := by decide +kernel
theorem dX2_nextChange_41 : decode cX2_nextChange 41 = .ok (.iload_n 1, 1) := by decide +kernel
theorem dX2_nextChange_42 : decode cX2_nextChange 42 = .ok (.if_icmp .le 12, 3) := by decide +kernel
theorem dX2_nextChange_45 : decode cX2_nextChange 45 = .ok (.iload_n 2, 1) := by decide +kernel
theorem dX2_nextChange_46 : decode cX2_nextChange 46 = .ok (.iload 4, 2) := by decide +kernel
theorem dX2_nextChange_48 : decode cX2_nextChange 48 = .ok (.invokestatic 43, 3) := by decide +kernel
theorem dX2_nextChange_51 : decode cX2_nextChange 51 = .ok (.goto 4, 3) := by decide +kernel
theorem dX2_nextChange_54 : decode cX2_nextChange 54 = .ok (.iload_n 2, 1) := by decide +kernel
theorem dX2_nextChange_55 : decode cX2_nextChange 55 = .ok (.istore_n 2, 1) := by decide +kernel
theorem dX2_nextChange_56 : decode cX2_nextChange 56 = .ok (.iload 5, 2) := by decide +kernel
theorem dX2_nextChange_58 : decode cX2_nextChange 58 = .ok (.iload_n 1, 1) := by decide +kernel
theorem dX2_nextChange_59 : decode cX2_nextChange 59 = .ok (.if_icmp .le 12, 3) := by decide +kernel
theorem dX2_nextChange_62 : decode cX2_nextChange 62 = .ok (.iload_n 2, 1) := by decide +kernel
theorem dX2_nextChange_63 : decode cX2_nextChange 63 = .ok (.iload 5, 2) := by decide +kernel
theorem dX2_nextChange_65 : decode cX2_nextChange 65 = .ok (.invokestatic 43, 3) := by decide +kernel
theorem dX2_nextChange_68 : decode cX2_nextChange 68 = .ok (.goto 4, 3) := by decide +kernel
theorem dX2_nextChange_71 : decode cX2_nextChange 71 = .ok (.iload_n 2, 1) := by decide +kernel
theorem dX2_nextChange_72 : decode cX2_nextChange 72 = .ok (.istore_n 2, 1) := by decide +kernel
theorem dX2_nextChange_73 : decode cX2_nextChange 73 = .ok (.iinc 3 1, 3) := by decide +kernel
theorem dX2_nextChange_76 : decode cX2_nextChange 76 = .ok (.goto (-70), 3) := by decide +kernel
theorem dX2_nextChange_79 : decode cX2_nextChange 79 = .ok (.iload_n 2, 1) := by decide +kernel
theorem dX2_nextChange_80 : decode cX2_nextChange 80 = .ok (.ireturn, 1) := by decide +kernel
theorem dX2_greatestRate_0 : decode cX2_greatestRate 0 = .ok (.iconst 0, 1) := by decide +kernel
theorem dX2_greatestRate_1 : decode cX2_greatestRate 1 = .ok (.istore_n 3, 1) := by decide +kernel
theorem dX2_greatestRate_2 : decode cX2_greatestRate 2 = .ok (.iconst 0, 1) := by decide +kernel
theorem dX2_greatestRate_3 : decode cX2_greatestRate 3 = .ok (.istore 4, 2) := by decide +kernel
theorem dX2_greatestRate_5 : decode cX2_greatestRate 5 = .ok (.iload 4, 2) := by decide +kernel
theorem dX2_greatestRate_7 : decode cX2_greatestRate 7 = .ok (.aload_n 0, 1) := by decide +kernel
theorem dX2_greatestRate_8 : decode cX2_greatestRate 8 = .ok (.getfield 14, 3) := by decide +kernel
theorem dX2_greatestRate_11 : decode cX2_greatestRate 11 = .ok (.invokevirtual 20, 3) := by decide +kernel
theorem dX2_greatestRate_14 : decode cX2_greatestRate 14 = .ok (.if_icmp .ge 81, 3) := by decide +kernel
theorem dX2_greatestRate_17 : decode cX2_greatestRate 17 = .ok (.aload_n 0, 1) := by decide +kernel
theorem dX2_greatestRate_18 : decode cX2_greatestRate 18 = .ok (.getfield 14, 3) := by decide +kernel
theorem dX2_greatestRate_21 : decode cX2_greatestRate 21 = .ok (.iload 4, 2) := by decide +kernel
theorem dX2_greatestRate_23 : decode cX2_greatestRate 23 = .ok (.iconst 0, 1) := by decide +kernel
theorem dX2_greatestRate_24 : decode cX2_greatestRate 24 = .ok (.invokevirtual 32, 3) := by decide +kernel
theorem dX2_greatestRate_27 : decode cX2_greatestRate 27 = .ok (.iload_n 1, 1) := by decide +kernel
theorem dX2_greatestRate_28 : decode cX2_greatestRate 28 = .ok (.ishr, 1) := by decide +kernel
theorem dX2_greatestRate_29 : decode cX2_greatestRate 29 = .ok (.iconst 1, 1) := by decide +kernel
theorem dX2_greatestRate_30 : decode cX2_greatestRate 30 = .ok (.iand, 1) := by decide +kernel
theorem dX2_greatestRate_31 : decode cX2_greatestRate 31 = .ok (.iconst 1, 1) := by decide +kernel
theorem dX2_greatestRate_32 : decode cX2_greatestRate 32 = .ok (.if_icmp .ne 7, 3) := by decide +kernel
theorem dX2_greatestRate_35 : decode cX2_greatestRate 35 = .ok (.iconst 1, 1) := by decide +kernel
theorem dX2_greatestRate_36 : decode cX2_greatestRate 36 = .ok (.goto 4, 3) := by decide +kernel
theorem dX2_greatestRate_39 : decode cX2_greatestRate 39 = .ok (.iconst 0, 1) := by decide +kernel
theorem dX2_greatestRate_40 : decode cX2_greatestRate 40 = .ok (.istore 5, 2) := by decide +kernel
theorem dX2_greatestRate_42 : decode cX2_greatestRate 42 = .ok (.iload 5, 2) := by decide +kernel
theorem dX2_greatestRate_44 : decode cX2_greatestRate 44 = .ok (.ifCond .eq 45, 3) := by decide +kernel
theorem dX2_greatestRate_47 : decode cX2_greatestRate 47 = .ok (.iload_n 2, 1) := by decide +kernel
theorem dX2_greatestRate_48 : decode cX2_greatestRate 48 = .ok (.aload_n 0, 1) := by decide +kernel
theorem dX2_greatestRate_49 : decode cX2_greatestRate 49 = .ok (.getfield 14, 3) := by decide +kernel
theorem dX2_greatestRate_52 : decode cX2_greatestRate 52 = .ok (.iload 4, 2) := by decide +kernel
theorem dX2_greatestRate_54 : decode cX2_greatestRate 54 = .ok (.iconst 1, 1) := by decide +kernel
theorem dX2_greatestRate_55 : decode cX2_greatestRate 55 = .ok (.invokevirtual 32, 3) := by decide +kernel
theorem dX2_greatestRate_58 : decode cX2_greatestRate 58 = .ok (.aload_n 0, 1) := by decide +kernel
theorem dX2_greatestRate_59 : decode cX2_greatestRate 59 = .ok (.getfield 14, 3) := by decide +kernel
theorem dX2_greatestRate_62 : decode cX2_greatestRate 62 = .ok (.iload 4, 2) := by decide +kernel
theorem dX2_greatestRate_64 : decode cX2_greatestRate 64 = .ok (.iconst 2, 1) := by decide +kernel
theorem dX2_greatestRate_65 : decode cX2_greatestRate 65 = .ok (.invokevirtual 32, 3) := by decide +kernel
theorem dX2_greatestRate_68 : decode cX2_greatestRate 68 = .ok (.invokestatic 51, 3) := by decide +kernel
theorem dX2_greatestRate_71 : decode cX2_greatestRate 71 = .ok (.ifCond .eq 18, 3) := by decide +kernel
theorem dX2_greatestRate_74 : decode cX2_greatestRate 74 = .ok (.iload_n 3, 1) := by decide +kernel
theorem dX2_greatestRate_75 : decode cX2_greatestRate 75 = .ok (.aload_n 0, 1) := by decide +kernel
theorem dX2_greatestRate_76 : decode cX2_greatestRate 76 = .ok (.getfield 14, 3) := by decide +kernel
theorem dX2_greatestRate_79 : decode cX2_greatestRate 79 = .ok (.iload 4, 2) := by decide +kernel
theorem dX2_greatestRate_81 : decode cX2_greatestRate 81 = .ok (.iconst 3, 1) := by decide +kernel
theorem dX2_greatestRate_82 : decode cX2_greatestRate 82 = .ok (.invokevirtual 32, 3) := by decide +kernel
theorem dX2_greatestRate_85 : decode cX2_greatestRate 85 = .ok (.invokestatic 55, 3) := by decide +kernel
theorem dX2_greatestRate_88 : decode cX2_greatestRate 88 = .ok (.istore_n 3, 1) := by decide +kernel
theorem dX2_greatestRate_89 : decode cX2_greatestRate 89 = .ok (.iinc 4 1, 3) := by decide +kernel
theorem dX2_greatestRate_92 : decode cX2_greatestRate 92 = .ok (.goto (-87), 3) := by decide +kernel
theorem dX2_greatestRate_95 : decode cX2_greatestRate 95 = .ok (.iload_n 3, 1) := by decide +kernel
theorem dX2_greatestRate_96 : decode cX2_greatestRate 96 = .ok (.ireturn, 1) := by decide +kernel
theorem dX2_isBetween_0 : decode cX2_isBetween 0 = .ok (.iload_n 1, 1) := by decide +kernel
theorem dX2_isBetween_1 : decode cX2_isBetween 1 = .ok (.iload_n 2, 1) := by decide +kernel
theorem dX2_isBetween_2 : decode cX2_isBetween 2 = .ok (.if_icmp .ge 19, 3) := by decide +kernel
theorem dX2_isBetween_5 : decode cX2_isBetween 5 = .ok (.iload_n 1, 1) := by decide +kernel
theorem dX2_isBetween_6 : decode cX2_isBetween 6 = .ok (.iload_n 0, 1) := by decide +kernel
theorem dX2_isBetween_7 : decode cX2_isBetween 7 = .ok (.if_icmp .gt 12, 3) := by decide +kernel
theorem dX2_isBetween_10 : decode cX2_isBetween 10 = .ok (.iload_n 0, 1) := by decide +kernel
theorem dX2_isBetween_11 : decode cX2_isBetween 11 = .ok (.iload_n 2, 1) := by decide +kernel
theorem dX2_isBetween_12 : decode cX2_isBetween 12 = .ok (.if_icmp .ge 7, 3) := by decide +kernel
theorem dX2_isBetween_15 : decode cX2_isBetween 15 = .ok (.iconst 1, 1) := by decide +kernel
theorem dX2_isBetween_16 : decode cX2_isBetween 16 = .ok (.goto 4, 3) := by decide +kernel
theorem dX2_isBetween_19 : decode cX2_isBetween 19 = .ok (.iconst 0, 1) := by decide +kernel
theorem dX2_isBetween_20 : decode cX2_isBetween 20 = .ok (.ireturn, 1) := by decide +kernel
theorem dX2_isBetween_21 : decode cX2_isBetween 21 = .ok (.iload_n 1, 1) := by decide +kernel
theorem dX2_isBetween_22 : decode cX2_isBetween 22 = .ok (.iload_n 2, 1) := by decide +kernel
theorem dX2_isBetween_23 : decode cX2_isBetween 23 = .ok (.if_icmp .eq 13, 3) := by decide +kernel
theorem dX2_isBetween_26 : decode cX2_isBetween 26 = .ok (.iload_n 0, 1) := by decide +kernel
theorem dX2_isBetween_27 : decode cX2_isBetween 27 = .ok (.iload_n 1, 1) := by decide +kernel
theorem dX2_isBetween_28 : decode cX2_isBetween 28 = .ok (.if_icmp .ge 8, 3) := by decide +kernel
theorem dX2_isBetween_31 : decode cX2_isBetween 31 = .ok (.iload_n 0, 1) := by decide +kernel
theorem dX2_isBetween_32 : decode cX2_isBetween 32 = .ok (.iload_n 2, 1) := by decide +kernel
theorem dX2_isBetween_33 : decode cX2_isBetween 33 = .ok (.if_icmp .ge 7, 3) := by decide +kernel
theorem dX2_isBetween_36 : decode cX2_isBetween 36 = .ok (.iconst 1, 1) := by decide +kernel
theorem dX2_isBetween_37 : decode cX2_isBetween 37 = .ok (.goto 4, 3) := by decide +kernel
theorem dX2_isBetween_40 : decode cX2_isBetween 40 = .ok (.iconst 0, 1) := by decide +kernel
theorem dX2_isBetween_41 : decode cX2_isBetween 41 = .ok (.ireturn, 1) := by decide +kernel
theorem dX3_init_0 : decode cX3_init 0 = .ok (.aload_n 0, 1) := by decide +kernel
theorem dX3_init_1 : decode cX3_init 1 = .ok (.invokespecial 3, 3) := by decide +kernel
theorem dX3_init_4 : decode cX3_init 4 = .ok (.aload_n 0, 1) := by decide +kernel
theorem dX3_init_5 : decode cX3_init 5 = .ok (.new 9, 3) := by decide +kernel
theorem dX3_init_8 : decode cX3_init 8 = .ok (.dup, 1) := by decide +kernel
theorem dX3_init_9 : decode cX3_init 9 = .ok (.bipush 40, 2) := by decide +kernel
theorem dX3_init_11 : decode cX3_init 11 = .ok (.iconst 2, 1) := by decide +kernel
theorem dX3_init_12 : decode cX3_init 12 = .ok (.invokespecial 11, 3) := by decide +kernel
theorem dX3_init_15 : decode cX3_init 15 = .ok (.putfield 14, 3) := by decide +kernel
theorem dX3_init_18 : decode cX3_init 18 = .ok (.aload_n 0, 1) := by decide +kernel
theorem dX3_init_19 : decode cX3_init 19 = .ok (.iconst 0, 1) := by decide +kernel
theorem dX3_init_20 : decode cX3_init 20 = .ok (.putfield 20, 3) := by decide +kernel
theorem dX3_init_23 : decode cX3_init 23 = .ok (.return_, 1) := by decide +kernel
theorem dX3_read_0 : decode cX3_read 0 = .ok (.aload_n 0, 1) := by decide +kernel
theorem dX3_read_1 : decode cX3_read 1 = .ok (.getfield 14, 3) := by decide +kernel
theorem dX3_read_4 : decode cX3_read 4 = .ok (.invokevirtual 24, 3) := by decide +kernel
theorem dX3_read_7 : decode cX3_read 7 = .ok (.aload_n 0, 1) := by decide +kernel
theorem dX3_read_8 : decode cX3_read 8 = .ok (.iconst 0, 1) := by decide +kernel
theorem dX3_read_9 : decode cX3_read 9 = .ok (.putfield 20, 3) := by decide +kernel
theorem dX3_read_12 : decode cX3_read 12 = .ok (.iconst 0, 1) := by decide +kernel
theorem dX3_read_13 : decode cX3_read 13 = .ok (.istore_n 2, 1) := by decide +kernel
theorem dX3_read_14 : decode cX3_read 14 = .ok (.iload_n 2, 1) := by decide +kernel
theorem dX3_read_15 : decode cX3_read 15 = .ok (.aload_n 1, 1) := by decide +kernel
theorem dX3_read_16 : decode cX3_read 16 = .ok (.invokevirtual 27, 3) := by decide +kernel
theorem dX3_read_19 : decode cX3_read 19 = .ok (.if_icmp .ge 42, 3) := by decide +kernel
theorem dX3_read_22 : decode cX3_read 22 = .ok (.aload_n 1, 1) := by decide +kernel
theorem dX3_read_23 : decode cX3_read 23 = .ok (.iload_n 2, 1) := by decide +kernel
theorem dX3_read_24 : decode cX3_read 24 = .ok (.invokestatic 31, 3) := by decide +kernel
theorem dX3_read_27 : decode cX3_read 27 = .ok (.ifCond .eq 12, 3) := by decide +kernel
theorem dX3_read_30 : decode cX3_read 30 = .ok (.aload_n 0, 1) := by decide +kernel
theorem dX3_read_31 : decode cX3_read 31 = .ok (.aload_n 1, 1) := by decide +kernel
theorem dX3_read_32 : decode cX3_read 32 = .ok (.iload_n 2, 1) := by decide +kernel
theorem dX3_read_33 : decode cX3_read 33 = .ok (.invokevirtual 35, 3) := by decide +kernel
theorem dX3_read_36 : decode cX3_read 36 = .ok (.goto 19, 3) := by decide +kernel
theorem dX3_read_39 : decode cX3_read 39 = .ok (.aload_n 1, 1) := by decide +kernel
theorem dX3_read_40 : decode cX3_read 40 = .ok (.iload_n 2, 1) := by decide +kernel
theorem dX3_read_41 : decode cX3_read 41 = .ok (.iconst 1, 1) := by decide +kernel
theorem dX3_read_42 : decode cX3_read 42 = .ok (.isub, 1) := by decide +kernel
theorem dX3_read_43 : decode cX3_read 43 = .ok (.invokestatic 31, 3) := by decide +kernel
theorem dX3_read_46 : decode cX3_read 46 = .ok (.ifCond .ne 9, 3) := by decide +kernel
theorem dX3_read_49 : decode cX3_read 49 = .ok (.aload_n 0, 1) := by decide +kernel
theorem dX3_read_50 : decode cX3_read 50 = .ok (.aload_n 1, 1) := by decide +kernel
theorem dX3_read_51 : decode cX3_read 51 = .ok (.iload_n 2, 1) := by decide +kernel
theorem dX3_read_52 : decode cX3_read 52 = .ok (.invokevirtual 39, 3) := by decide +kernel
theorem dX3_read_55 : decode cX3_read 55 = .ok (.iinc 2 1, 3) := by decide +kernel
theorem dX3_read_58 : decode cX3_read 58 = .ok (.goto (-44), 3) := by decide +kernel
theorem dX3_read_61 : decode cX3_read 61 = .ok (.return_, 1) := by decide +kernel
theorem dX3_addFromIn_0 : decode cX3_addFromIn 0 = .ok (.aload_n 1, 1) := by decide +kernel
theorem dX3_addFromIn_1 : decode cX3_addFromIn 1 = .ok (.iload_n 2, 1) := by decide +kernel
theorem dX3_addFromIn_2 : decode cX3_addFromIn 2 = .ok (.iconst 0, 1) := by decide +kernel
theorem dX3_addFromIn_3 : decode cX3_addFromIn 3 = .ok (.invokevirtual 42, 3) := by decide +kernel
theorem dX3_addFromIn_6 : decode cX3_addFromIn 6 = .ok (.istore_n 3, 1) := by decide +kernel
theorem dX3_addFromIn_7 : decode cX3_addFromIn 7 = .ok (.iload_n 2, 1) := by decide +kernel
theorem dX3_addFromIn_8 : decode cX3_addFromIn 8 = .ok (.iconst 1, 1) := by decide +kernel
theorem dX3_addFromIn_9 : decode cX3_addFromIn 9 = .ok (.iadd, 1) := by decide +kernel
theorem dX3_addFromIn_10 : decode cX3_addFromIn 10 = .ok (.aload_n 1, 1) := by decide +kernel
theorem dX3_addFromIn_11 : decode cX3_addFromIn 11 = .ok (.invokevirtual 27, 3) := by decide +kernel
theorem dX3_addFromIn_14 : decode cX3_addFromIn 14 = .ok (.if_icmp .lt 7, 3) := by decide +kernel
theorem dX3_addFromIn_17 : decode cX3_addFromIn 17 = .ok (.iconst 1, 1) := by decide +kernel
theorem dX3_addFromIn_18 : decode cX3_addFromIn 18 = .ok (.goto 4, 3) := by decide +kernel
theorem dX3_addFromIn_21 : decode cX3_addFromIn 21 = .ok (.iconst 0, 1) := by decide +kernel
theorem dX3_addFromIn_22 : decode cX3_addFromIn 22 = .ok (.istore 4, 2) := by decide +kernel
theorem dX3_addFromIn_24 : decode cX3_addFromIn 24 = .ok (.iload 4, 2) := by decide +kernel
theorem dX3_addFromIn_26 : decode cX3_addFromIn 26 = .ok (.ifCond .eq 9, 3) := by decide +kernel
theorem dX3_addFromIn_29 : decode cX3_addFromIn 29 = .ok (.sipush 10080, 3) := by decide +kernel
theorem dX3_addFromIn_32 : decode cX3_addFromIn 32 = .ok (.goto 11, 3) := by decide +kernel
theorem dX3_addFromIn_35 : decode cX3_addFromIn 35 = .ok (.aload_n 1, 1) := by decide +kernel
theorem dX3_addFromIn_36 : decode cX3_addFromIn 36 = .ok (.iload_n 2, 1) := by decide +kernel
theorem dX3_addFromIn_37 : decode cX3_addFromIn 37 = .ok (.iconst 1, 1) := by decide +kernel
theorem dX3_addFromIn_38 : decode cX3_addFromIn 38 = .ok (.iadd, 1) := by decide +kernel
theorem dX3_addFromIn_39 : decode cX3_addFromIn 39 = .ok (.iconst 0, 1) := by decide +kernel
theorem dX3_addFromIn_40 : decode cX3_addFromIn 40 = .ok (.invokevirtual 42, 3) := by decide +kernel
theorem dX3_addFromIn_43 : decode cX3_addFromIn 43 = .ok (.istore 5, 2) := by decide +kernel
theorem dX3_addFromIn_45 : decode cX3_addFromIn 45 = .ok (.iload 4, 2) := by decide +kernel
theorem dX3_addFromIn_47 : decode cX3_addFromIn 47 = .ok (.ifCond .ne 13, 3) := by decide +kernel
theorem dX3_addFromIn_50 : decode cX3_addFromIn 50 = .ok (.aload_n 1, 1) := by decide +kernel
theorem dX3_addFromIn_51 : decode cX3_addFromIn 51 = .ok (.iload_n 2, 1) := by decide +kernel
theorem dX3_addFromIn_52 : decode cX3_addFromIn 52 = .ok (.iconst 1, 1) := by decide +kernel
theorem dX3_addFromIn_53 : decode cX3_addFromIn 53 = .ok (.iadd, 1) := by decide +kernel
theorem dX3_addFromIn_54 : decode cX3_addFromIn 54 = .ok (.invokestatic 31, 3) := by decide +kernel
theorem dX3_addFromIn_57 : decode cX3_addFromIn 57 = .ok (.ifCond .eq 34, 3) := by decide +kernel
theorem dX3_addFromIn_60 : decode cX3_addFromIn 60 = .ok (.aload_n 0, 1) := by decide +kernel
theorem dX3_addFromIn_61 : decode cX3_addFromIn 61 = .ok (.dup, 1) := by decide +kernel
theorem dX3_addFromIn_62 : decode cX3_addFromIn 62 = .ok (.getfield 20, 3) := by decide +kernel
theorem dX3_addFromIn_65 : decode cX3_addFromIn 65 = .ok (.iconst 1, 1) := by decide +kernel
theorem dX3_addFromIn_66 : decode cX3_addFromIn 66 = .ok (.iadd, 1) := by decide +kernel
theorem dX3_addFromIn_67 : decode cX3_addFromIn 67 = .ok (.putfield 20, 3) := by decide +kernel
theorem dX3_addFromIn_70 : decode cX3_addFromIn 70 = .ok (.aload_n 0, 1) := by decide +kernel
theorem dX3_addFromIn_71 : decode cX3_addFromIn 71 = .ok (.getfield 14, 3) := by decide +kernel
theorem dX3_addFromIn_74 : decode cX3_addFromIn 74 = .ok (.iload_n 3, 1) := by decide +kernel
theorem dX3_addFromIn_75 : decode cX3_addFromIn 75 = .ok (.iload_n 3, 1) := by decide +kernel
theorem dX3_addFromIn_76 : decode cX3_addFromIn 76 = .ok (.sipush 480, 3) := by decide +kernel
theorem dX3_addFromIn_79 : decode cX3_addFromIn 79 = .ok (.iadd, 1) := by decide +kernel
theorem dX3_addFromIn_80 : decode cX3_addFromIn 80 = .ok (.iload 5, 2) := by decide +kernel
theorem dX3_addFromIn_82 : decode cX3_addFromIn 82 = .ok (.invokestatic 46, 3) := by decide +kernel
theorem dX3_addFromIn_85 : decode cX3_addFromIn 85 = .ok (.invokevirtual 51, 3) := by decide +kernel
theorem dX3_addFromIn_88 : decode cX3_addFromIn 88 = .ok (.goto 13, 3) := by decide +kernel
theorem dX3_addFromIn_91 : decode cX3_addFromIn 91 = .ok (.aload_n 0, 1) := by decide +kernel
theorem dX3_addFromIn_92 : decode cX3_addFromIn 92 = .ok (.getfield 14, 3) := by decide +kernel
theorem dX3_addFromIn_95 : decode cX3_addFromIn 95 = .ok (.iload_n 3, 1) := by decide +kernel
theorem dX3_addFromIn_96 : decode cX3_addFromIn 96 = .ok (.iload 5, 2) := by decide +kernel
theorem dX3_addFromIn_98 : decode cX3_addFromIn 98 = .ok (.invokevirtual 51, 3) := by decide +kernel
theorem dX3_addFromIn_101 : decode cX3_addFromIn 101 = .ok (.return_, 1) := by decide +kernel
theorem dX3_addFromLoneOut_0 : decode cX3_addFromLoneOut 0 = .ok (.aload_n 1, 1) := by decide +kernel
theorem dX3_addFromLoneOut_1 : decode cX3_addFromLoneOut 1 = .ok (.iload_n 2, 1) := by decide +kernel
theorem dX3_addFromLoneOut_2 : decode cX3_addFromLoneOut 2 = .ok (.iconst 0, 1) := by decide +kernel
theorem dX3_addFromLoneOut_3 : decode cX3_addFromLoneOut 3 = .ok (.invokevirtual 42, 3) := by decide +kernel
theorem dX3_addFromLoneOut_6 : decode cX3_addFromLoneOut 6 = .ok (.istore_n 3, 1) := by decide +kernel
theorem dX3_addFromLoneOut_7 : decode cX3_addFromLoneOut 7 = .ok (.iload_n 2, 1) := by decide +kernel
theorem dX3_addFromLoneOut_8 : decode cX3_addFromLoneOut 8 = .ok (.ifCond .ne 7, 3) := by decide +kernel
theorem dX3_addFromLoneOut_11 : decode cX3_addFromLoneOut 11 = .ok (.iconst 0, 1) := by decide +kernel
theorem dX3_addFromLoneOut_12 : decode cX3_addFromLoneOut 12 = .ok (.goto 11, 3) := by decide +kernel
theorem dX3_addFromLoneOut_15 : decode cX3_addFromLoneOut 15 = .ok (.aload_n 1, 1) := by decide +kernel
theorem dX3_addFromLoneOut_16 : decode cX3_addFromLoneOut 16 = .ok (.iload_n 2, 1) := by decide +kernel
theorem dX3_addFromLoneOut_17 : decode cX3_addFromLoneOut 17 = .ok (.iconst 1, 1) := by decide +kernel
theorem dX3_addFromLoneOut_18 : decode cX3_addFromLoneOut 18 = .ok (.isub, 1) := by decide +kernel
theorem dX3_addFromLoneOut_19 : decode cX3_addFromLoneOut 19 = .ok (.iconst 0, 1) := by decide +kernel
theorem dX3_addFromLoneOut_20 : decode cX3_addFromLoneOut 20 = .ok (.invokevirtual 42, 3) := by decide +kernel
theorem dX3_addFromLoneOut_23 : decode cX3_addFromLoneOut 23 = .ok (.istore 4, 2) := by decide +kernel
theorem dX3_addFromLoneOut_25 : decode cX3_addFromLoneOut 25 = .ok (.aload_n 0, 1) := by decide +kernel
theorem dX3_addFromLoneOut_26 : decode cX3_addFromLoneOut 26 = .ok (.dup, 1) := by decide +kernel
theorem dX3_addFromLoneOut_27 : decode cX3_addFromLoneOut 27 = .ok (.getfield 20, 3) := by decide +kernel
theorem dX3_addFromLoneOut_30 : decode cX3_addFromLoneOut 30 = .ok (.iconst 1, 1) := by decide +kernel
theorem dX3_addFromLoneOut_31 : decode cX3_addFromLoneOut 31 = .ok (.iadd, 1) := by decide +kernel
theorem dX3_addFromLoneOut_32 : decode cX3_addFromLoneOut 32 = .ok (.putfield 20, 3) := by decide +kernel
theorem dX3_addFromLoneOut_35 : decode cX3_addFromLoneOut 35 = .ok (.aload_n 0, 1) := by decide +kernel
theorem dX3_addFromLoneOut_36 : decode cX3_addFromLoneOut 36 = .ok (.getfield 14, 3) := by decide +kernel
theorem dX3_addFromLoneOut_39 : decode cX3_addFromLoneOut 39 = .ok (.iload_n 3, 1) := by decide +kernel
theorem dX3_addFromLoneOut_40 : decode cX3_addFromLoneOut 40 = .ok (.sipush 480, 3) := by decide +kernel
theorem dX3_addFromLoneOut_43 : decode cX3_addFromLoneOut 43 = .ok (.isub, 1) := by decide +kernel
theorem dX3_addFromLoneOut_44 : decode cX3_addFromLoneOut 44 = .ok (.iload 4, 2) := by decide +kernel
theorem dX3_addFromLoneOut_46 : decode cX3_addFromLoneOut 46 = .ok (.invokestatic 54, 3) := by decide +kernel
theorem dX3_addFromLoneOut_49 : decode cX3_addFromLoneOut 49 = .ok (.iload_n 3, 1) := by decide +kernel
theorem dX3_addFromLoneOut_50 : decode cX3_addFromLoneOut 50 = .ok (.invokevirtual 51, 3) := by decide +kernel
theorem dX3_addFromLoneOut_53 : decode cX3_addFromLoneOut 53 = .ok (.return_, 1) := by decide +kernel
theorem dX3_isIn_0 : decode cX3_isIn 0 = .ok (.aload_n 0, 1) := by decide +kernel
theorem dX3_isIn_1 : decode cX3_isIn 1 = .ok (.iload_n 1, 1) := by decide +kernel
theorem dX3_isIn_2 : decode cX3_isIn 2 = .ok (.iconst 1, 1) := by decide +kernel
theorem dX3_isIn_3 : decode cX3_isIn 3 = .ok (.invokevirtual 42, 3) := by decide +kernel
theorem dX3_isIn_6 : decode cX3_isIn 6 = .ok (.iconst 1, 1) := by decide +kernel
theorem dX3_isIn_7 : decode cX3_isIn 7 = .ok (.if_icmp .ne 7, 3) := by decide +kernel
theorem dX3_isIn_10 : decode cX3_isIn 10 = .ok (.iconst 1, 1) := by decide +kernel
theorem dX3_isIn_11 : decode cX3_isIn 11 = .ok (.goto 4, 3) := by decide +kernel
theorem dX3_isIn_14 : decode cX3_isIn 14 = .ok (.iconst 0, 1) := by decide +kernel
theorem dX3_isIn_15 : decode cX3_isIn 15 = .ok (.ireturn, 1) := by decide +kernel
theorem dX5_init_0 : decode cX5_init 0 = .ok (.aload_n 0, 1) := by decide +kernel
theorem dX5_init_1 : decode cX5_init 1 = .ok (.invokespecial 3, 3) := by decide +kernel
theorem dX5_init_4 : decode cX5_init 4 = .ok (.aload_n 0, 1) := by decide +kernel
theorem dX5_init_5 : decode cX5_init 5 = .ok (.new 9, 3) := by decide +kernel
theorem dX5_init_8 : decode cX5_init 8 = .ok (.dup, 1) := by decide +kernel
theorem dX5_init_9 : decode cX5_init 9 = .ok (.invokespecial 11, 3) := by decide +kernel
theorem dX5_init_12 : decode cX5_init 12 = .ok (.putfield 12, 3) := by decide +kernel
theorem dX5_init_15 : decode cX5_init 15 = .ok (.aload_n 0, 1) := by decide +kernel
theorem dX5_init_16 : decode cX5_init 16 = .ok (.new 18, 3) := by decide +kernel
theorem dX5_init_19 : decode cX5_init 19 = .ok (.dup, 1) := by decide +kernel
theorem dX5_init_20 : decode cX5_init 20 = .ok (.sipush 160, 3) := by decide +kernel
theorem dX5_init_23 : decode cX5_init 23 = .ok (.iconst 3, 1) := by decide +kernel
theorem dX5_init_24 : decode cX5_init 24 = .ok (.invokespecial 20, 3) := by decide +kernel
theorem dX5_init_27 : decode cX5_init 27 = .ok (.putfield 23, 3) := by decide +kernel
theorem dX5_init_30 : decode cX5_init 30 = .ok (.aload_n 0, 1) := by decide +kernel
theorem dX5_init_31 : decode cX5_init 31 = .ok (.new 18, 3) := by decide +kernel
theorem dX5_init_34 : decode cX5_init 34 = .ok (.dup, 1) := by decide +kernel
theorem dX5_init_35 : decode cX5_init 35 = .ok (.bipush 80, 2) := by decide +kernel
theorem dX5_init_37 : decode cX5_init 37 = .ok (.iconst 2, 1) := by decide +kernel
theorem dX5_init_38 : decode cX5_init 38 = .ok (.invokespecial 20, 3) := by decide +kernel
theorem dX5_init_41 : decode cX5_init 41 = .ok (.putfield 27, 3) := by decide +kernel
theorem dX5_init_44 : decode cX5_init 44 = .ok (.aload_n 0, 1) := by decide +kernel
theorem dX5_init_45 : decode cX5_init 45 = .ok (.iconst 0, 1) := by decide +kernel
theorem dX5_init_46 : decode cX5_init 46 = .ok (.putfield 30, 3) := by decide +kernel
theorem dX5_init_49 : decode cX5_init 49 = .ok (.return_, 1) := by decide +kernel
theorem dX5_read_0 : decode cX5_read 0 = .ok (.aload_n 0, 1) := by decide +kernel
theorem dX5_read_1 : decode cX5_read 1 = .ok (.getfield 12, 3) := by decide +kernel
theorem dX5_read_4 : decode cX5_read 4 = .ok (.aload_n 1, 1) := by decide +kernel
theorem dX5_read_5 : decode cX5_read 5 = .ok (.getfield 34, 3) := by decide +kernel
theorem dX5_read_8 : decode cX5_read 8 = .ok (.invokevirtual 39, 3) := by decide +kernel
theorem dX5_read_11 : decode cX5_read 11 = .ok (.aload_n 0, 1) := by decide +kernel
theorem dX5_read_12 : decode cX5_read 12 = .ok (.getfield 23, 3) := by decide +kernel
theorem dX5_read_15 : decode cX5_read 15 = .ok (.invokevirtual 43, 3) := by decide +kernel
theorem dX5_read_18 : decode cX5_read 18 = .ok (.aload_n 0, 1) := by decide +kernel
theorem dX5_read_19 : decode cX5_read 19 = .ok (.aload_n 0, 1) := by decide +kernel
theorem dX5_read_20 : decode cX5_read 20 = .ok (.getfield 12, 3) := by decide +kernel
theorem dX5_read_23 : decode cX5_read 23 = .ok (.getfield 46, 3) := by decide +kernel
theorem dX5_read_26 : decode cX5_read 26 = .ok (.iconst 1, 1) := by decide +kernel
theorem dX5_read_27 : decode cX5_read 27 = .ok (.iconst 0, 1) := by decide +kernel
theorem dX5_read_28 : decode cX5_read 28 = .ok (.invokevirtual 49, 3) := by decide +kernel
theorem dX5_read_31 : decode cX5_read 31 = .ok (.aload_n 0, 1) := by decide +kernel
theorem dX5_read_32 : decode cX5_read 32 = .ok (.aload_n 1, 1) := by decide +kernel
theorem dX5_read_33 : decode cX5_read 33 = .ok (.getfield 53, 3) := by decide +kernel
theorem dX5_read_36 : decode cX5_read 36 = .ok (.iconst 1, 1) := by decide +kernel
theorem dX5_read_37 : decode cX5_read 37 = .ok (.iconst 0, 1) := by decide +kernel
theorem dX5_read_38 : decode cX5_read 38 = .ok (.invokevirtual 49, 3) := by decide +kernel
theorem dX5_read_41 : decode cX5_read 41 = .ok (.aload_n 0, 1) := by decide +kernel
theorem dX5_read_42 : decode cX5_read 42 = .ok (.aload_n 1, 1) := by decide +kernel
theorem dX5_read_43 : decode cX5_read 43 = .ok (.getfield 56, 3) := by decide +kernel
theorem dX5_read_46 : decode cX5_read 46 = .ok (.iconst 0, 1) := by decide +kernel
theorem dX5_read_47 : decode cX5_read 47 = .ok (.iconst 1, 1) := by decide +kernel
theorem dX5_read_48 : decode cX5_read 48 = .ok (.invokevirtual 49, 3) := by decide +kernel
theorem dX5_read_51 : decode cX5_read 51 = .ok (.aload_n 0, 1) := by decide +kernel
theorem dX5_read_52 : decode cX5_read 52 = .ok (.invokevirtual 59, 3) := by decide +kernel
theorem dX5_read_55 : decode cX5_read 55 = .ok (.return_, 1) := by decide +kernel
theorem dX5_addEvents_0 : decode cX5_addEvents 0 = .ok (.iconst 0, 1) := by decide +kernel
theorem dX5_addEvents_1 : decode cX5_addEvents 1 = .ok (.istore 4, 2) := by decide +kernel
theorem dX5_addEvents_3 : decode cX5_addEvents 3 = .ok (.iload 4, 2) := by decide +kernel
theorem dX5_addEvents_5 : decode cX5_addEvents 5 = .ok (.aload_n 1, 1) := by decide +kernel
theorem dX5_addEvents_6 : decode cX5_addEvents 6 = .ok (.invokevirtual 62, 3) := by decide +kernel
theorem dX5_addEvents_9 : decode cX5_addEvents 9 = .ok (.if_icmp .ge 37, 3) := by decide +kernel
theorem dX5_addEvents_12 : decode cX5_addEvents 12 = .ok (.aload_n 0, 1) := by decide +kernel
theorem dX5_addEvents_13 : decode cX5_addEvents 13 = .ok (.aload_n 1, 1) := by decide +kernel
theorem dX5_addEvents_14 : decode cX5_addEvents 14 = .ok (.iload 4, 2) := by decide +kernel
theorem dX5_addEvents_16 : decode cX5_addEvents 16 = .ok (.iconst 0, 1) := by decide +kernel
theorem dX5_addEvents_17 : decode cX5_addEvents 17 = .ok (.invokevirtual 66, 3) := by decide +kernel
theorem dX5_addEvents_20 : decode cX5_addEvents 20 = .ok (.iload_n 2, 1) := by decide +kernel
theorem dX5_addEvents_21 : decode cX5_addEvents 21 = .ok (.iload_n 3, 1) := by decide +kernel
theorem dX5_addEvents_22 : decode cX5_addEvents 22 = .ok (.invokevirtual 70, 3) := by decide +kernel
theorem dX5_addEvents_25 : decode cX5_addEvents 25 = .ok (.aload_n 0, 1) := by decide +kernel
theorem dX5_addEvents_26 : decode cX5_addEvents 26 = .ok (.aload_n 1, 1) := by decide +kernel
theorem dX5_addEvents_27 : decode cX5_addEvents 27 = .ok (.iload 4, 2) := by decide +kernel
theorem dX5_addEvents_29 : decode cX5_addEvents 29 = .ok (.iconst 1, 1) := by decide +kernel
theorem dX5_addEvents_30 : decode cX5_addEvents 30 = .ok (.invokevirtual 66, 3) := by decide +kernel
theorem dX5_addEvents_33 : decode cX5_addEvents 33 = .ok (.iload_n 2, 1) := by decide +kernel
theorem dX5_addEvents_34 : decode cX5_addEvents 34 = .ok (.ineg, 1) := by decide +kernel
theorem dX5_addEvents_35 : decode cX5_addEvents 35 = .ok (.iload_n 3, 1) := by decide +kernel
theorem dX5_addEvents_36 : decode cX5_addEvents 36 = .ok (.ineg, 1) := by decide +kernel
theorem dX5_addEvents_37 : decode cX5_addEvents 37 = .ok (.invokevirtual 70, 3) := by decide +kernel
theorem dX5_addEvents_40 : decode cX5_addEvents 40 = .ok (.iinc 4 1, 3) := by decide +kernel
theorem dX5_addEvents_43 : decode cX5_addEvents 43 = .ok (.goto (-40), 3) := by decide +kernel
theorem dX5_addEvents_46 : decode cX5_addEvents 46 = .ok (.return_, 1) := by decide +kernel
theorem dX5_addEvent_0 : decode cX5_addEvent 0 = .ok (.aload_n 0, 1) := by decide +kernel
theorem dX5_addEvent_1 : decode cX5_addEvent 1 = .ok (.getfield 23, 3) := by decide +kernel
theorem dX5_addEvent_4 : decode cX5_addEvent 4 = .ok (.invokevirtual 62, 3) := by decide +kernel
theorem dX5_addEvent_7 : decode cX5_addEvent 7 = .ok (.istore 4, 2) := by decide +kernel
theorem dX5_addEvent_9 : decode cX5_addEvent 9 = .ok (.iload 4, 2) := by decide +kernel
theorem dX5_addEvent_11 : decode cX5_addEvent 11 = .ok (.iconst 1, 1) := by decide +kernel
theorem dX5_addEvent_12 : decode cX5_addEvent 12 = .ok (.isub, 1) := by decide +kernel
theorem dX5_addEvent_13 : decode cX5_addEvent 13 = .ok (.istore 5, 2) := by decide +kernel
theorem dX5_addEvent_15 : decode cX5_addEvent 15 = .ok (.iload 5, 2) := by decide +kernel
theorem dX5_addEvent_17 : decode cX5_addEvent 17 = .ok (.ifCond .lt 27, 3) := by decide +kernel
theorem dX5_addEvent_20 : decode cX5_addEvent 20 = .ok (.aload_n 0, 1) := by decide +kernel
theorem dX5_addEvent_21 : decode cX5_addEvent 21 = .ok (.getfield 23, 3) := by decide +kernel
theorem dX5_addEvent_24 : decode cX5_addEvent 24 = .ok (.iload 5, 2) := by decide +kernel
theorem dX5_addEvent_26 : decode cX5_addEvent 26 = .ok (.iconst 0, 1) := by decide +kernel
theorem dX5_addEvent_27 : decode cX5_addEvent 27 = .ok (.invokevirtual 66, 3) := by decide +kernel
theorem dX5_addEvent_30 : decode cX5_addEvent 30 = .ok (.iload_n 1, 1) := by decide +kernel
theorem dX5_addEvent_31 : decode cX5_addEvent 31 = .ok (.if_icmp .le 13, 3) := by decide +kernel
theorem dX5_addEvent_34 : decode cX5_addEvent 34 = .ok (.iload 5, 2) := by decide +kernel
theorem dX5_addEvent_36 : decode cX5_addEvent 36 = .ok (.istore 4, 2) := by decide +kernel
theorem dX5_addEvent_38 : decode cX5_addEvent 38 = .ok (.iinc 5 (-1), 3) := by decide +kernel
theorem dX5_addEvent_41 : decode cX5_addEvent 41 = .ok (.goto (-26), 3) := by decide +kernel
theorem dX5_addEvent_44 : decode cX5_addEvent 44 = .ok (.aload_n 0, 1) := by decide +kernel
theorem dX5_addEvent_45 : decode cX5_addEvent 45 = .ok (.getfield 23, 3) := by decide +kernel
theorem dX5_addEvent_48 : decode cX5_addEvent 48 = .ok (.iload 4, 2) := by decide +kernel
theorem dX5_addEvent_50 : decode cX5_addEvent 50 = .ok (.invokevirtual 74, 3) := by decide +kernel
theorem dX5_addEvent_53 : decode cX5_addEvent 53 = .ok (.aload_n 0, 1) := by decide +kernel
theorem dX5_addEvent_54 : decode cX5_addEvent 54 = .ok (.getfield 23, 3) := by decide +kernel
theorem dX5_addEvent_57 : decode cX5_addEvent 57 = .ok (.iload 4, 2) := by decide +kernel
theorem dX5_addEvent_59 : decode cX5_addEvent 59 = .ok (.iconst 0, 1) := by decide +kernel
theorem dX5_addEvent_60 : decode cX5_addEvent 60 = .ok (.iload_n 1, 1) := by decide +kernel
theorem dX5_addEvent_61 : decode cX5_addEvent 61 = .ok (.invokevirtual 78, 3) := by decide +kernel
theorem dX5_addEvent_64 : decode cX5_addEvent 64 = .ok (.aload_n 0, 1) := by decide +kernel
theorem dX5_addEvent_65 : decode cX5_addEvent 65 = .ok (.getfield 23, 3) := by decide +kernel
theorem dX5_addEvent_68 : decode cX5_addEvent 68 = .ok (.iload 4, 2) := by decide +kernel
theorem dX5_addEvent_70 : decode cX5_addEvent 70 = .ok (.iconst 1, 1) := by decide +kernel
theorem dX5_addEvent_71 : decode cX5_addEvent 71 = .ok (.iload_n 2, 1) := by decide +kernel
theorem dX5_addEvent_72 : decode cX5_addEvent 72 = .ok (.invokevirtual 78, 3) := by decide +kernel
theorem dX5_addEvent_75 : decode cX5_addEvent 75 = .ok (.aload_n 0, 1) := by decide +kernel
theorem dX5_addEvent_76 : decode cX5_addEvent 76 = .ok (.getfield 23, 3) := by decide +kernel
theorem dX5_addEvent_79 : decode cX5_addEvent 79 = .ok (.iload 4, 2) := by decide +kernel
theorem dX5_addEvent_81 : decode cX5_addEvent 81 = .ok (.iconst 2, 1) := by decide +kernel
theorem dX5_addEvent_82 : decode cX5_addEvent 82 = .ok (.iload_n 3, 1) := by decide +kernel
theorem dX5_addEvent_83 : decode cX5_addEvent 83 = .ok (.invokevirtual 78, 3) := by decide +kernel
theorem dX5_addEvent_86 : decode cX5_addEvent 86 = .ok (.return_, 1) := by decide +kernel
theorem dX5_goThroughEvents_0 : decode cX5_goThroughEvents 0 = .ok (.aload_n 0, 1) := by decide +kernel
theorem dX5_goThroughEvents_1 : decode cX5_goThroughEvents 1 = .ok (.getfield 27, 3) := by decide +kernel
theorem dX5_goThroughEvents_4 : decode cX5_goThroughEvents 4 = .ok (.invokevirtual 43, 3) := by decide +kernel
theorem dX5_goThroughEvents_7 : decode cX5_goThroughEvents 7 = .ok (.aload_n 0, 1) := by decide +kernel
theorem dX5_goThroughEvents_8 : decode cX5_goThroughEvents 8 = .ok (.iconst 0, 1) := by decide +kernel
theorem dX5_goThroughEvents_9 : decode cX5_goThroughEvents 9 = .ok (.putfield 30, 3) := by decide +kernel
theorem dX5_goThroughEvents_12 : decode cX5_goThroughEvents 12 = .ok (.iconst 0, 1) := by decide +kernel
theorem dX5_goThroughEvents_13 : decode cX5_goThroughEvents 13 = .ok (.istore_n 1, 1) := by decide +kernel
theorem dX5_goThroughEvents_14 : decode cX5_goThroughEvents 14 = .ok (.iconst 0, 1) := by decide +kernel
theorem dX5_goThroughEvents_15 : decode cX5_goThroughEvents 15 = .ok (.istore_n 2, 1) := by decide +kernel
theorem dX5_goThroughEvents_16 : decode cX5_goThroughEvents 16 = .ok (.iconst 0, 1) := by decide +kernel
theorem dX5_goThroughEvents_17 : decode cX5_goThroughEvents 17 = .ok (.istore_n 3, 1) := by decide +kernel
theorem dX5_goThroughEvents_18 : decode cX5_goThroughEvents 18 = .ok (.iconst 0, 1) := by decide +kernel
theorem dX5_goThroughEvents_19 : decode cX5_goThroughEvents 19 = .ok (.istore 4, 2) := by decide +kernel
theorem dX5_goThroughEvents_21 : decode cX5_goThroughEvents 21 = .ok (.iload 4, 2) := by decide +kernel
theorem dX5_goThroughEvents_23 : decode cX5_goThroughEvents 23 = .ok (.aload_n 0, 1) := by decide +kernel
theorem dX5_goThroughEvents_24 : decode cX5_goThroughEvents 24 = .ok (.getfield 23, 3) := by decide +kernel
theorem dX5_goThroughEvents_27 : decode cX5_goThroughEvents 27 = .ok (.invokevirtual 62, 3) := by decide +kernel
theorem dX5_goThroughEvents_30 : decode cX5_goThroughEvents 30 = .ok (.if_icmp .ge 90, 3) := by decide +kernel
theorem dX5_goThroughEvents_33 : decode cX5_goThroughEvents 33 = .ok (.aload_n 0, 1) := by decide +kernel
theorem dX5_goThroughEvents_34 : decode cX5_goThroughEvents 34 = .ok (.getfield 23, 3) := by decide +kernel
theorem dX5_goThroughEvents_37 : decode cX5_goThroughEvents 37 = .ok (.iload 4, 2) := by decide +kernel
theorem dX5_goThroughEvents_39 : decode cX5_goThroughEvents 39 = .ok (.iconst 0, 1) := by decide +kernel
theorem dX5_goThroughEvents_40 : decode cX5_goThroughEvents 40 = .ok (.invokevirtual 66, 3) := by decide +kernel
theorem dX5_goThroughEvents_43 : decode cX5_goThroughEvents 43 = .ok (.istore 5, 2) := by decide +kernel
theorem dX5_goThroughEvents_45 : decode cX5_goThroughEvents 45 = .ok (.iload_n 1, 1) := by decide +kernel
theorem dX5_goThroughEvents_46 : decode cX5_goThroughEvents 46 = .ok (.iconst 2, 1) := by decide +kernel
theorem dX5_goThroughEvents_47 : decode cX5_goThroughEvents 47 = .ok (.if_icmp .lt 16, 3) := by decide +kernel
theorem dX5_goThroughEvents_50 : decode cX5_goThroughEvents 50 = .ok (.aload_n 0, 1) := by decide +kernel
theorem dX5_goThroughEvents_51 : decode cX5_goThroughEvents 51 = .ok (.dup, 1) := by decide +kernel
theorem dX5_goThroughEvents_52 : decode cX5_goThroughEvents 52 = .ok (.getfield 30, 3) := by decide +kernel
theorem dX5_goThroughEvents_55 : decode cX5_goThroughEvents 55 = .ok (.iload 5, 2) := by decide +kernel
theorem dX5_goThroughEvents_57 : decode cX5_goThroughEvents 57 = .ok (.iload_n 3, 1) := by decide +kernel
theorem dX5_goThroughEvents_58 : decode cX5_goThroughEvents 58 = .ok (.isub, 1) := by decide +kernel
theorem dX5_goThroughEvents_59 : decode cX5_goThroughEvents 59 = .ok (.iadd, 1) := by decide +kernel
theorem dX5_goThroughEvents_60 : decode cX5_goThroughEvents 60 = .ok (.putfield 30, 3) := by decide +kernel
theorem dX5_goThroughEvents_63 : decode cX5_goThroughEvents 63 = .ok (.iload 5, 2) := by decide +kernel
theorem dX5_goThroughEvents_65 : decode cX5_goThroughEvents 65 = .ok (.iload_n 3, 1) := by decide +kernel
theorem dX5_goThroughEvents_66 : decode cX5_goThroughEvents 66 = .ok (.if_icmp .le 19, 3) := by decide +kernel
theorem dX5_goThroughEvents_69 : decode cX5_goThroughEvents 69 = .ok (.iload_n 1, 1) := by decide +kernel
theorem dX5_goThroughEvents_70 : decode cX5_goThroughEvents 70 = .ok (.iconst 1, 1) := by decide +kernel
theorem dX5_goThroughEvents_71 : decode cX5_goThroughEvents 71 = .ok (.if_icmp .lt 14, 3) := by decide +kernel
theorem dX5_goThroughEvents_74 : decode cX5_goThroughEvents 74 = .ok (.iload_n 2, 1) := by decide +kernel
theorem dX5_goThroughEvents_75 : decode cX5_goThroughEvents 75 = .ok (.ifCond .ne 10, 3) := by decide +kernel
theorem dX5_goThroughEvents_78 : decode cX5_goThroughEvents 78 = .ok (.aload_n 0, 1) := by decide +kernel
theorem dX5_goThroughEvents_79 : decode cX5_goThroughEvents 79 = .ok (.iload_n 3, 1) := by decide +kernel
theorem dX5_goThroughEvents_80 : decode cX5_goThroughEvents 80 = .ok (.iload 5, 2) := by decide +kernel
theorem dX5_goThroughEvents_82 : decode cX5_goThroughEvents 82 = .ok (.invokevirtual 81, 3) := by decide +kernel
theorem dX5_goThroughEvents_85 : decode cX5_goThroughEvents 85 = .ok (.iload_n 1, 1) := by decide +kernel
theorem dX5_goThroughEvents_86 : decode cX5_goThroughEvents 86 = .ok (.aload_n 0, 1) := by decide +kernel
theorem dX5_goThroughEvents_87 : decode cX5_goThroughEvents 87 = .ok (.getfield 23, 3) := by decide +kernel
theorem dX5_goThroughEvents_90 : decode cX5_goThroughEvents 90 = .ok (.iload 4, 2) := by decide +kernel
theorem dX5_goThroughEvents_92 : decode cX5_goThroughEvents 92 = .ok (.iconst 1, 1) := by decide +kernel
theorem dX5_goThroughEvents_93 : decode cX5_goThroughEvents 93 = .ok (.invokevirtual 66, 3) := by decide +kernel
theorem dX5_goThroughEvents_96 : decode cX5_goThroughEvents 96 = .ok (.iadd, 1) := by decide +kernel
theorem dX5_goThroughEvents_97 : decode cX5_goThroughEvents 97 = .ok (.istore_n 1, 1) := by decide +kernel
theorem dX5_goThroughEvents_98 : decode cX5_goThroughEvents 98 = .ok (.iload_n 2, 1) := by decide +kernel
theorem dX5_goThroughEvents_99 : decode cX5_goThroughEvents 99 = .ok (.aload_n 0, 1) := by decide +kernel
theorem dX5_goThroughEvents_100 : decode cX5_goThroughEvents 100 = .ok (.getfield 23, 3) := by decide +kernel
theorem dX5_goThroughEvents_103 : decode cX5_goThroughEvents 103 = .ok (.iload 4, 2) := by decide +kernel
theorem dX5_goThroughEvents_105 : decode cX5_goThroughEvents 105 = .ok (.iconst 2, 1) := by decide +kernel
theorem dX5_goThroughEvents_106 : decode cX5_goThroughEvents 106 = .ok (.invokevirtual 66, 3) := by decide +kernel
theorem dX5_goThroughEvents_109 : decode cX5_goThroughEvents 109 = .ok (.iadd, 1) := by decide +kernel
theorem dX5_goThroughEvents_110 : decode cX5_goThroughEvents 110 = .ok (.istore_n 2, 1) := by decide +kernel
theorem dX5_goThroughEvents_111 : decode cX5_goThroughEvents 111 = .ok (.iload 5, 2) := by decide +kernel
theorem dX5_goThroughEvents_113 : decode cX5_goThroughEvents 113 = .ok (.istore_n 3, 1) := by decide +kernel
theorem dX5_goThroughEvents_114 : decode cX5_goThroughEvents 114 = .ok (.iinc 4 1, 3) := by decide +kernel
theorem dX5_goThroughEvents_117 : decode cX5_goThroughEvents 117 = .ok (.goto (-96), 3) := by decide +kernel
theorem dX5_goThroughEvents_120 : decode cX5_goThroughEvents 120 = .ok (.return_, 1) := by decide +kernel
theorem dX5_addWorked_0 : decode cX5_addWorked 0 = .ok (.aload_n 0, 1) := by decide +kernel
theorem dX5_addWorked_1 : decode cX5_addWorked 1 = .ok (.getfield 27, 3) := by decide +kernel
theorem dX5_addWorked_4 : decode cX5_addWorked 4 = .ok (.invokevirtual 62, 3) := by decide +kernel
theorem dX5_addWorked_7 : decode cX5_addWorked 7 = .ok (.iconst 1, 1) := by decide +kernel
theorem dX5_addWorked_8 : decode cX5_addWorked 8 = .ok (.isub, 1) := by decide +kernel
theorem dX5_addWorked_9 : decode cX5_addWorked 9 = .ok (.istore_n 3, 1) := by decide +kernel
theorem dX5_addWorked_10 : decode cX5_addWorked 10 = .ok (.iload_n 3, 1) := by decide +kernel
theorem dX5_addWorked_11 : decode cX5_addWorked 11 = .ok (.ifCond .lt 29, 3) := by decide +kernel
theorem dX5_addWorked_14 : decode cX5_addWorked 14 = .ok (.aload_n 0, 1) := by decide +kernel
theorem dX5_addWorked_15 : decode cX5_addWorked 15 = .ok (.getfield 27, 3) := by decide +kernel
theorem dX5_addWorked_18 : decode cX5_addWorked 18 = .ok (.iload_n 3, 1) := by decide +kernel
theorem dX5_addWorked_19 : decode cX5_addWorked 19 = .ok (.iconst 1, 1) := by decide +kernel
theorem dX5_addWorked_20 : decode cX5_addWorked 20 = .ok (.invokevirtual 66, 3) := by decide +kernel
theorem dX5_addWorked_23 : decode cX5_addWorked 23 = .ok (.iload_n 1, 1) := by decide +kernel
theorem dX5_addWorked_24 : decode cX5_addWorked 24 = .ok (.if_icmp .ne 16, 3) := by decide +kernel
theorem dX5_addWorked_27 : decode cX5_addWorked 27 = .ok (.aload_n 0, 1) := by decide +kernel
theorem dX5_addWorked_28 : decode cX5_addWorked 28 = .ok (.getfield 27, 3) := by decide +kernel
theorem dX5_addWorked_31 : decode cX5_addWorked 31 = .ok (.iload_n 3, 1) := by decide +kernel
theorem dX5_addWorked_32 : decode cX5_addWorked 32 = .ok (.iconst 1, 1) := by decide +kernel
theorem dX5_addWorked_33 : decode cX5_addWorked 33 = .ok (.iload_n 2, 1) := by decide +kernel
theorem dX5_addWorked_34 : decode cX5_addWorked 34 = .ok (.invokevirtual 78, 3) := by decide +kernel
theorem dX5_addWorked_37 : decode cX5_addWorked 37 = .ok (.goto 12, 3) := by decide +kernel
theorem dX5_addWorked_40 : decode cX5_addWorked 40 = .ok (.aload_n 0, 1) := by decide +kernel
theorem dX5_addWorked_41 : decode cX5_addWorked 41 = .ok (.getfield 27, 3) := by decide +kernel
theorem dX5_addWorked_44 : decode cX5_addWorked 44 = .ok (.iload_n 1, 1) := by decide +kernel
theorem dX5_addWorked_45 : decode cX5_addWorked 45 = .ok (.iload_n 2, 1) := by decide +kernel
theorem dX5_addWorked_46 : decode cX5_addWorked 46 = .ok (.invokevirtual 84, 3) := by decide +kernel
theorem dX5_addWorked_49 : decode cX5_addWorked 49 = .ok (.return_, 1) := by decide +kernel
theorem dX1_init_0 : decode cX1_init 0 = .ok (.aload_n 0, 1) := by decide +kernel
theorem dX1_init_1 : decode cX1_init 1 = .ok (.invokespecial 3, 3) := by decide +kernel
theorem dX1_init_4 : decode cX1_init 4 = .ok (.aload_n 0, 1) := by decide +kernel
theorem dX1_init_5 : decode cX1_init 5 = .ok (.new 9, 3) := by decide +kernel
theorem dX1_init_8 : decode cX1_init 8 = .ok (.dup, 1) := by decide +kernel
theorem dX1_init_9 : decode cX1_init 9 = .ok (.invokespecial 11, 3) := by decide +kernel
theorem dX1_init_12 : decode cX1_init 12 = .ok (.putfield 12, 3) := by decide +kernel
theorem dX1_init_15 : decode cX1_init 15 = .ok (.aload_n 0, 1) := by decide +kernel
theorem dX1_init_16 : decode cX1_init 16 = .ok (.new 18, 3) := by decide +kernel
theorem dX1_init_19 : decode cX1_init 19 = .ok (.dup, 1) := by decide +kernel
theorem dX1_init_20 : decode cX1_init 20 = .ok (.sipush 160, 3) := by decide +kernel
theorem dX1_init_23 : decode cX1_init 23 = .ok (.iconst 2, 1) := by decide +kernel
theorem dX1_init_24 : decode cX1_init 24 = .ok (.invokespecial 20, 3) := by decide +kernel
theorem dX1_init_27 : decode cX1_init 27 = .ok (.putfield 23, 3) := by decide +kernel
theorem dX1_init_30 : decode cX1_init 30 = .ok (.aload_n 0, 1) := by decide +kernel
theorem dX1_init_31 : decode cX1_init 31 = .ok (.new 18, 3) := by decide +kernel
theorem dX1_init_34 : decode cX1_init 34 = .ok (.dup, 1) := by decide +kernel
theorem dX1_init_35 : decode cX1_init 35 = .ok (.sipush 188, 3) := by decide +kernel
theorem dX1_init_38 : decode cX1_init 38 = .ok (.iconst 3, 1) := by decide +kernel
theorem dX1_init_39 : decode cX1_init 39 = .ok (.invokespecial 20, 3) := by decide +kernel
theorem dX1_init_42 : decode cX1_init 42 = .ok (.putfield 27, 3) := by decide +kernel
theorem dX1_init_45 : decode cX1_init 45 = .ok (.return_, 1) := by decide +kernel
theorem dX1_read_0 : decode cX1_read 0 = .ok (.aload_n 0, 1) := by decide +kernel
theorem dX1_read_1 : decode cX1_read 1 = .ok (.getfield 12, 3) := by decide +kernel
theorem dX1_read_4 : decode cX1_read 4 = .ok (.aload_n 1, 1) := by decide +kernel
theorem dX1_read_5 : decode cX1_read 5 = .ok (.invokevirtual 30, 3) := by decide +kernel
theorem dX1_read_8 : decode cX1_read 8 = .ok (.aload_n 0, 1) := by decide +kernel
theorem dX1_read_9 : decode cX1_read 9 = .ok (.aload_n 0, 1) := by decide +kernel
theorem dX1_read_10 : decode cX1_read 10 = .ok (.getfield 12, 3) := by decide +kernel
theorem dX1_read_13 : decode cX1_read 13 = .ok (.getfield 34, 3) := by decide +kernel
theorem dX1_read_16 : decode cX1_read 16 = .ok (.invokevirtual 37, 3) := by decide +kernel
theorem dX1_read_19 : decode cX1_read 19 = .ok (.aload_n 0, 1) := by decide +kernel
theorem dX1_read_20 : decode cX1_read 20 = .ok (.getfield 27, 3) := by decide +kernel
theorem dX1_read_23 : decode cX1_read 23 = .ok (.invokevirtual 41, 3) := by decide +kernel
theorem dX1_read_26 : decode cX1_read 26 = .ok (.aload_n 0, 1) := by decide +kernel
theorem dX1_read_27 : decode cX1_read 27 = .ok (.invokevirtual 44, 3) := by decide +kernel
theorem dX1_read_30 : decode cX1_read 30 = .ok (.istore_n 2, 1) := by decide +kernel
theorem dX1_read_31 : decode cX1_read 31 = .ok (.iconst 0, 1) := by decide +kernel
theorem dX1_read_32 : decode cX1_read 32 = .ok (.istore_n 3, 1) := by decide +kernel
theorem dX1_read_33 : decode cX1_read 33 = .ok (.iconst 0, 1) := by decide +kernel
theorem dX1_read_34 : decode cX1_read 34 = .ok (.istore 4, 2) := by decide +kernel
theorem dX1_read_36 : decode cX1_read 36 = .ok (.iload 4, 2) := by decide +kernel
theorem dX1_read_38 : decode cX1_read 38 = .ok (.bipush 7, 2) := by decide +kernel
theorem dX1_read_40 : decode cX1_read 40 = .ok (.if_icmp .ge 44, 3) := by decide +kernel
theorem dX1_read_43 : decode cX1_read 43 = .ok (.aload_n 0, 1) := by decide +kernel
theorem dX1_read_44 : decode cX1_read 44 = .ok (.iload 4, 2) := by decide +kernel
theorem dX1_read_46 : decode cX1_read 46 = .ok (.iload_n 3, 1) := by decide +kernel
theorem dX1_read_47 : decode cX1_read 47 = .ok (.iload_n 2, 1) := by decide +kernel
theorem dX1_read_48 : decode cX1_read 48 = .ok (.ifCond .eq 14, 3) := by decide +kernel
theorem dX1_read_51 : decode cX1_read 51 = .ok (.iload 4, 2) := by decide +kernel
theorem dX1_read_53 : decode cX1_read 53 = .ok (.bipush 6, 2) := by decide +kernel
theorem dX1_read_55 : decode cX1_read 55 = .ok (.if_icmp .ne 7, 3) := by decide +kernel
theorem dX1_read_58 : decode cX1_read 58 = .ok (.iconst 1, 1) := by decide +kernel
theorem dX1_read_59 : decode cX1_read 59 = .ok (.goto 4, 3) := by decide +kernel
theorem dX1_read_62 : decode cX1_read 62 = .ok (.iconst 0, 1) := by decide +kernel
theorem dX1_read_63 : decode cX1_read 63 = .ok (.invokevirtual 48, 3) := by decide +kernel
theorem dX1_read_66 : decode cX1_read 66 = .ok (.iload_n 3, 1) := by decide +kernel
theorem dX1_read_67 : decode cX1_read 67 = .ok (.aload_n 0, 1) := by decide +kernel
theorem dX1_read_68 : decode cX1_read 68 = .ok (.getfield 23, 3) := by decide +kernel
theorem dX1_read_71 : decode cX1_read 71 = .ok (.iload 4, 2) := by decide +kernel
theorem dX1_read_73 : decode cX1_read 73 = .ok (.invokestatic 52, 3) := by decide +kernel
theorem dX1_read_76 : decode cX1_read 76 = .ok (.iadd, 1) := by decide +kernel
theorem dX1_read_77 : decode cX1_read 77 = .ok (.istore_n 3, 1) := by decide +kernel
theorem dX1_read_78 : decode cX1_read 78 = .ok (.iinc 4 1, 3) := by decide +kernel
theorem dX1_read_81 : decode cX1_read 81 = .ok (.goto (-45), 3) := by decide +kernel
theorem dX1_read_84 : decode cX1_read 84 = .ok (.return_, 1) := by decide +kernel
theorem dX1_takeOffAutomaticBreaks_0 : decode cX1_takeOffAutomaticBreaks 0 = .ok (.aload_n 0, 1) := by decide +kernel
theorem dX1_takeOffAutomaticBreaks_1 : decode cX1_takeOffAutomaticBreaks 1 = .ok (.getfield 23, 3) := by decide +kernel
theorem dX1_takeOffAutomaticBreaks_4 : decode cX1_takeOffAutomaticBreaks 4 = .ok (.invokevirtual 41, 3) := by decide +kernel
theorem dX1_takeOffAutomaticBreaks_7 : decode cX1_takeOffAutomaticBreaks 7 = .ok (.iconst 0, 1) := by decide +kernel
theorem dX1_takeOffAutomaticBreaks_8 : decode cX1_takeOffAutomaticBreaks 8 = .ok (.istore_n 2, 1) := by decide +kernel
theorem dX1_takeOffAutomaticBreaks_9 : decode cX1_takeOffAutomaticBreaks 9 = .ok (.iload_n 2, 1) := by decide +kernel
theorem dX1_takeOffAutomaticBreaks_10 : decode cX1_takeOffAutomaticBreaks 10 = .ok (.aload_n 1, 1) := by decide +kernel
theorem dX1_takeOffAutomaticBreaks_11 : decode cX1_takeOffAutomaticBreaks 11 = .ok (.invokevirtual 56, 3) := by decide +kernel
theorem dX1_takeOffAutomaticBreaks_14 : decode cX1_takeOffAutomaticBreaks 14 = .ok (.if_icmp .ge 66, 3) := by decide +kernel
theorem dX1_takeOffAutomaticBreaks_17 : decode cX1_takeOffAutomaticBreaks 17 = .ok (.aload_n 1, 1) := by decide +kernel
theorem dX1_takeOffAutomaticBreaks_18 : decode cX1_takeOffAutomaticBreaks 18 = .ok (.iload_n 2, 1) := by decide +kernel
theorem dX1_takeOffAutomaticBreaks_19 : decode cX1_takeOffAutomaticBreaks 19 = .ok (.iconst 0, 1) := by decide +kernel
theorem dX1_takeOffAutomaticBreaks_20 : decode cX1_takeOffAutomaticBreaks 20 = .ok (.invokevirtual 60, 3) := by decide +kernel
theorem dX1_takeOffAutomaticBreaks_23 : decode cX1_takeOffAutomaticBreaks 23 = .ok (.istore_n 3, 1) := by decide +kernel
theorem dX1_takeOffAutomaticBreaks_24 : decode cX1_takeOffAutomaticBreaks 24 = .ok (.aload_n 1, 1) := by decide +kernel
theorem dX1_takeOffAutomaticBreaks_25 : decode cX1_takeOffAutomaticBreaks 25 = .ok (.iload_n 2, 1) := by decide +kernel
theorem dX1_takeOffAutomaticBreaks_26 : decode cX1_takeOffAutomaticBreaks 26 = .ok (.iconst 1, 1) := by decide +kernel
theorem dX1_takeOffAutomaticBreaks_27 : decode cX1_takeOffAutomaticBreaks 27 = .ok (.invokevirtual 60, 3) := by decide +kernel
theorem dX1_takeOffAutomaticBreaks_30 : decode cX1_takeOffAutomaticBreaks 30 = .ok (.istore 4, 2) := by decide +kernel
theorem dX1_takeOffAutomaticBreaks_32 : decode cX1_takeOffAutomaticBreaks 32 = .ok (.aload_n 0, 1) := by decide +kernel
theorem dX1_takeOffAutomaticBreaks_33 : decode cX1_takeOffAutomaticBreaks 33 = .ok (.getfield 23, 3) := by decide +kernel
theorem dX1_takeOffAutomaticBreaks_36 : decode cX1_takeOffAutomaticBreaks 36 = .ok (.iload_n 3, 1) := by decide +kernel
theorem dX1_takeOffAutomaticBreaks_37 : decode cX1_takeOffAutomaticBreaks 37 = .ok (.iload 4, 2) := by decide +kernel
theorem dX1_takeOffAutomaticBreaks_39 : decode cX1_takeOffAutomaticBreaks 39 = .ok (.iload_n 3, 1) := by decide +kernel
theorem dX1_takeOffAutomaticBreaks_40 : decode cX1_takeOffAutomaticBreaks 40 = .ok (.sipush 360, 3) := by decide +kernel
theorem dX1_takeOffAutomaticBreaks_43 : decode cX1_takeOffAutomaticBreaks 43 = .ok (.iadd, 1) := by decide +kernel
theorem dX1_takeOffAutomaticBreaks_44 : decode cX1_takeOffAutomaticBreaks 44 = .ok (.invokestatic 64, 3) := by decide +kernel
theorem dX1_takeOffAutomaticBreaks_47 : decode cX1_takeOffAutomaticBreaks 47 = .ok (.invokevirtual 69, 3) := by decide +kernel
theorem dX1_takeOffAutomaticBreaks_50 : decode cX1_takeOffAutomaticBreaks 50 = .ok (.iload 4, 2) := by decide +kernel
theorem dX1_takeOffAutomaticBreaks_52 : decode cX1_takeOffAutomaticBreaks 52 = .ok (.iload_n 3, 1) := by decide +kernel
theorem dX1_takeOffAutomaticBreaks_53 : decode cX1_takeOffAutomaticBreaks 53 = .ok (.sipush 390, 3) := by decide +kernel
theorem dX1_takeOffAutomaticBreaks_56 : decode cX1_takeOffAutomaticBreaks 56 = .ok (.iadd, 1) := by decide +kernel
theorem dX1_takeOffAutomaticBreaks_57 : decode cX1_takeOffAutomaticBreaks 57 = .ok (.if_icmp .le 17, 3) := by decide +kernel
theorem dX1_takeOffAutomaticBreaks_60 : decode cX1_takeOffAutomaticBreaks 60 = .ok (.aload_n 0, 1) := by decide +kernel
theorem dX1_takeOffAutomaticBreaks_61 : decode cX1_takeOffAutomaticBreaks 61 = .ok (.getfield 23, 3) := by decide +kernel
theorem dX1_takeOffAutomaticBreaks_64 : decode cX1_takeOffAutomaticBreaks 64 = .ok (.iload_n 3, 1) := by decide +kernel
theorem dX1_takeOffAutomaticBreaks_65 : decode cX1_takeOffAutomaticBreaks 65 = .ok (.sipush 390, 3) := by decide +kernel
theorem dX1_takeOffAutomaticBreaks_68 : decode cX1_takeOffAutomaticBreaks 68 = .ok (.iadd, 1) := by decide +kernel
theorem dX1_takeOffAutomaticBreaks_69 : decode cX1_takeOffAutomaticBreaks 69 = .ok (.iload 4, 2) := by decide +kernel
theorem dX1_takeOffAutomaticBreaks_71 : decode cX1_takeOffAutomaticBreaks 71 = .ok (.invokevirtual 69, 3) := by decide +kernel
theorem dX1_takeOffAutomaticBreaks_74 : decode cX1_takeOffAutomaticBreaks 74 = .ok (.iinc 2 1, 3) := by decide +kernel
theorem dX1_takeOffAutomaticBreaks_77 : decode cX1_takeOffAutomaticBreaks 77 = .ok (.goto (-68), 3) := by decide +kernel
theorem dX1_takeOffAutomaticBreaks_80 : decode cX1_takeOffAutomaticBreaks 80 = .ok (.return_, 1) := by decide +kernel
theorem dX1_isFull_0 : decode cX1_isFull 0 = .ok (.iconst 1, 1) := by decide +kernel
theorem dX1_isFull_1 : decode cX1_isFull 1 = .ok (.istore_n 1, 1) := by decide +kernel
theorem dX1_isFull_2 : decode cX1_isFull 2 = .ok (.iconst 0, 1) := by decide +kernel
theorem dX1_isFull_3 : decode cX1_isFull 3 = .ok (.istore_n 2, 1) := by decide +kernel
theorem dX1_isFull_4 : decode cX1_isFull 4 = .ok (.iload_n 2, 1) := by decide +kernel
theorem dX1_isFull_5 : decode cX1_isFull 5 = .ok (.bipush 6, 2) := by decide +kernel
theorem dX1_isFull_7 : decode cX1_isFull 7 = .ok (.if_icmp .ge 30, 3) := by decide +kernel
theorem dX1_isFull_10 : decode cX1_isFull 10 = .ok (.iload_n 1, 1) := by decide +kernel
theorem dX1_isFull_11 : decode cX1_isFull 11 = .ok (.ifCond .eq 18, 3) := by decide +kernel
theorem dX1_isFull_14 : decode cX1_isFull 14 = .ok (.aload_n 0, 1) := by decide +kernel
theorem dX1_isFull_15 : decode cX1_isFull 15 = .ok (.getfield 23, 3) := by decide +kernel
theorem dX1_isFull_18 : decode cX1_isFull 18 = .ok (.iload_n 2, 1) := by decide +kernel
theorem dX1_isFull_19 : decode cX1_isFull 19 = .ok (.invokestatic 52, 3) := by decide +kernel
theorem dX1_isFull_22 : decode cX1_isFull 22 = .ok (.ifCond .le 7, 3) := by decide +kernel
theorem dX1_isFull_25 : decode cX1_isFull 25 = .ok (.iconst 1, 1) := by decide +kernel
theorem dX1_isFull_26 : decode cX1_isFull 26 = .ok (.goto 4, 3) := by decide +kernel
theorem dX1_isFull_29 : decode cX1_isFull 29 = .ok (.iconst 0, 1) := by decide +kernel
theorem dX1_isFull_30 : decode cX1_isFull 30 = .ok (.istore_n 1, 1) := by decide +kernel
theorem dX1_isFull_31 : decode cX1_isFull 31 = .ok (.iinc 2 1, 3) := by decide +kernel
theorem dX1_isFull_34 : decode cX1_isFull 34 = .ok (.goto (-30), 3) := by decide +kernel
theorem dX1_isFull_37 : decode cX1_isFull 37 = .ok (.iload_n 1, 1) := by decide +kernel
theorem dX1_isFull_38 : decode cX1_isFull 38 = .ok (.ireturn, 1) := by decide +kernel
theorem dX1_addPartsOfDay_0 : decode cX1_addPartsOfDay 0 = .ok (.iconst 0, 1) := by decide +kernel
theorem dX1_addPartsOfDay_1 : decode cX1_addPartsOfDay 1 = .ok (.istore 4, 2) := by decide +kernel
theorem dX1_addPartsOfDay_3 : decode cX1_addPartsOfDay 3 = .ok (.iconst 0, 1) := by decide +kernel
theorem dX1_addPartsOfDay_4 : decode cX1_addPartsOfDay 4 = .ok (.istore 5, 2) := by decide +kernel
theorem dX1_addPartsOfDay_6 : decode cX1_addPartsOfDay 6 = .ok (.iload 5, 2) := by decide +kernel
theorem dX1_addPartsOfDay_8 : decode cX1_addPartsOfDay 8 = .ok (.aload_n 0, 1) := by decide +kernel
theorem dX1_addPartsOfDay_9 : decode cX1_addPartsOfDay 9 = .ok (.getfield 23, 3) := by decide +kernel
theorem dX1_addPartsOfDay_12 : decode cX1_addPartsOfDay 12 = .ok (.invokevirtual 56, 3) := by decide +kernel
theorem dX1_addPartsOfDay_15 : decode cX1_addPartsOfDay 15 = .ok (.if_icmp .ge 83, 3) := by decide +kernel
theorem dX1_addPartsOfDay_18 : decode cX1_addPartsOfDay 18 = .ok (.aload_n 0, 1) := by decide +kernel
theorem dX1_addPartsOfDay_19 : decode cX1_addPartsOfDay 19 = .ok (.getfield 23, 3) := by decide +kernel
theorem dX1_addPartsOfDay_22 : decode cX1_addPartsOfDay 22 = .ok (.iload 5, 2) := by decide +kernel
theorem dX1_addPartsOfDay_24 : decode cX1_addPartsOfDay 24 = .ok (.iconst 0, 1) := by decide +kernel
theorem dX1_addPartsOfDay_25 : decode cX1_addPartsOfDay 25 = .ok (.invokevirtual 60, 3) := by decide +kernel
theorem dX1_addPartsOfDay_28 : decode cX1_addPartsOfDay 28 = .ok (.iload_n 1, 1) := by decide +kernel
theorem dX1_addPartsOfDay_29 : decode cX1_addPartsOfDay 29 = .ok (.sipush 1440, 3) := by decide +kernel
theorem dX1_addPartsOfDay_32 : decode cX1_addPartsOfDay 32 = .ok (.imul, 1) := by decide +kernel
theorem dX1_addPartsOfDay_33 : decode cX1_addPartsOfDay 33 = .ok (.invokestatic 72, 3) := by decide +kernel
theorem dX1_addPartsOfDay_36 : decode cX1_addPartsOfDay 36 = .ok (.istore 6, 2) := by decide +kernel
theorem dX1_addPartsOfDay_38 : decode cX1_addPartsOfDay 38 = .ok (.aload_n 0, 1) := by decide +kernel
theorem dX1_addPartsOfDay_39 : decode cX1_addPartsOfDay 39 = .ok (.getfield 23, 3) := by decide +kernel
theorem dX1_addPartsOfDay_42 : decode cX1_addPartsOfDay 42 = .ok (.iload 5, 2) := by decide +kernel
theorem dX1_addPartsOfDay_44 : decode cX1_addPartsOfDay 44 = .ok (.iconst 1, 1) := by decide +kernel
theorem dX1_addPartsOfDay_45 : decode cX1_addPartsOfDay 45 = .ok (.invokevirtual 60, 3) := by decide +kernel
theorem dX1_addPartsOfDay_48 : decode cX1_addPartsOfDay 48 = .ok (.iload_n 1, 1) := by decide +kernel
theorem dX1_addPartsOfDay_49 : decode cX1_addPartsOfDay 49 = .ok (.iconst 1, 1) := by decide +kernel
theorem dX1_addPartsOfDay_50 : decode cX1_addPartsOfDay 50 = .ok (.iadd, 1) := by decide +kernel
theorem dX1_addPartsOfDay_51 : decode cX1_addPartsOfDay 51 = .ok (.sipush 1440, 3) := by decide +kernel
theorem dX1_addPartsOfDay_54 : decode cX1_addPartsOfDay 54 = .ok (.imul, 1) := by decide +kernel
theorem dX1_addPartsOfDay_55 : decode cX1_addPartsOfDay 55 = .ok (.invokestatic 64, 3) := by decide +kernel
theorem dX1_addPartsOfDay_58 : decode cX1_addPartsOfDay 58 = .ok (.istore 7, 2) := by decide +kernel
theorem dX1_addPartsOfDay_60 : decode cX1_addPartsOfDay 60 = .ok (.iload 6, 2) := by decide +kernel
theorem dX1_addPartsOfDay_62 : decode cX1_addPartsOfDay 62 = .ok (.iload 7, 2) := by decide +kernel
theorem dX1_addPartsOfDay_64 : decode cX1_addPartsOfDay 64 = .ok (.if_icmp .ge 28, 3) := by decide +kernel
theorem dX1_addPartsOfDay_67 : decode cX1_addPartsOfDay 67 = .ok (.aload_n 0, 1) := by decide +kernel
theorem dX1_addPartsOfDay_68 : decode cX1_addPartsOfDay 68 = .ok (.iload 6, 2) := by decide +kernel
theorem dX1_addPartsOfDay_70 : decode cX1_addPartsOfDay 70 = .ok (.iload 7, 2) := by decide +kernel
theorem dX1_addPartsOfDay_72 : decode cX1_addPartsOfDay 72 = .ok (.iload 4, 2) := by decide +kernel
theorem dX1_addPartsOfDay_74 : decode cX1_addPartsOfDay 74 = .ok (.iload_n 2, 1) := by decide +kernel
theorem dX1_addPartsOfDay_75 : decode cX1_addPartsOfDay 75 = .ok (.iload 4, 2) := by decide +kernel
theorem dX1_addPartsOfDay_77 : decode cX1_addPartsOfDay 77 = .ok (.iadd, 1) := by decide +kernel
theorem dX1_addPartsOfDay_78 : decode cX1_addPartsOfDay 78 = .ok (.iload_n 3, 1) := by decide +kernel
theorem dX1_addPartsOfDay_79 : decode cX1_addPartsOfDay 79 = .ok (.invokevirtual 75, 3) := by decide +kernel
theorem dX1_addPartsOfDay_82 : decode cX1_addPartsOfDay 82 = .ok (.iload 4, 2) := by decide +kernel
theorem dX1_addPartsOfDay_84 : decode cX1_addPartsOfDay 84 = .ok (.iload 7, 2) := by decide +kernel
theorem dX1_addPartsOfDay_86 : decode cX1_addPartsOfDay 86 = .ok (.iload 6, 2) := by decide +kernel
theorem dX1_addPartsOfDay_88 : decode cX1_addPartsOfDay 88 = .ok (.isub, 1) := by decide +kernel
theorem dX1_addPartsOfDay_89 : decode cX1_addPartsOfDay 89 = .ok (.iadd, 1) := by decide +kernel
theorem dX1_addPartsOfDay_90 : decode cX1_addPartsOfDay 90 = .ok (.istore 4, 2) := by decide +kernel
theorem dX1_addPartsOfDay_92 : decode cX1_addPartsOfDay 92 = .ok (.iinc 5 1, 3) := by decide +kernel
theorem dX1_addPartsOfDay_95 : decode cX1_addPartsOfDay 95 = .ok (.goto (-89), 3) := by decide +kernel
theorem dX1_addPartsOfDay_98 : decode cX1_addPartsOfDay 98 = .ok (.return_, 1) := by decide +kernel
theorem dX1_addParts_0 : decode cX1_addParts 0 = .ok (.iload_n 1, 1) := by decide +kernel
theorem dX1_addParts_1 : decode cX1_addParts 1 = .ok (.istore 6, 2) := by decide +kernel
theorem dX1_addParts_3 : decode cX1_addParts 3 = .ok (.iconst 0, 1) := by decide +kernel
theorem dX1_addParts_4 : decode cX1_addParts 4 = .ok (.istore 7, 2) := by decide +kernel
theorem dX1_addParts_6 : decode cX1_addParts 6 = .ok (.iload 7, 2) := by decide +kernel
theorem dX1_addParts_8 : decode cX1_addParts 8 = .ok (.sipush 1440, 3) := by decide +kernel
theorem dX1_addParts_11 : decode cX1_addParts 11 = .ok (.if_icmp .ge 97, 3) := by decide +kernel
theorem dX1_addParts_14 : decode cX1_addParts 14 = .ok (.iload 6, 2) := by decide +kernel
theorem dX1_addParts_16 : decode cX1_addParts 16 = .ok (.iload_n 2, 1) := by decide +kernel
theorem dX1_addParts_17 : decode cX1_addParts 17 = .ok (.if_icmp .ge 91, 3) := by decide +kernel
theorem dX1_addParts_20 : decode cX1_addParts 20 = .ok (.iload_n 3, 1) := by decide +kernel
theorem dX1_addParts_21 : decode cX1_addParts 21 = .ok (.iload 6, 2) := by decide +kernel
theorem dX1_addParts_23 : decode cX1_addParts 23 = .ok (.iadd, 1) := by decide +kernel
theorem dX1_addParts_24 : decode cX1_addParts 24 = .ok (.iload_n 1, 1) := by decide +kernel
theorem dX1_addParts_25 : decode cX1_addParts 25 = .ok (.isub, 1) := by decide +kernel
theorem dX1_addParts_26 : decode cX1_addParts 26 = .ok (.istore 8, 2) := by decide +kernel
theorem dX1_addParts_28 : decode cX1_addParts 28 = .ok (.iload 4, 2) := by decide +kernel
theorem dX1_addParts_30 : decode cX1_addParts 30 = .ok (.iload 6, 2) := by decide +kernel
theorem dX1_addParts_32 : decode cX1_addParts 32 = .ok (.iadd, 1) := by decide +kernel
theorem dX1_addParts_33 : decode cX1_addParts 33 = .ok (.iload_n 1, 1) := by decide +kernel
theorem dX1_addParts_34 : decode cX1_addParts 34 = .ok (.isub, 1) := by decide +kernel
theorem dX1_addParts_35 : decode cX1_addParts 35 = .ok (.istore 9, 2) := by decide +kernel
theorem dX1_addParts_37 : decode cX1_addParts 37 = .ok (.iload_n 2, 1) := by decide +kernel
theorem dX1_addParts_38 : decode cX1_addParts 38 = .ok (.iload 6, 2) := by decide +kernel
theorem dX1_addParts_40 : decode cX1_addParts 40 = .ok (.isub, 1) := by decide +kernel
theorem dX1_addParts_41 : decode cX1_addParts 41 = .ok (.iload 8, 2) := by decide +kernel
theorem dX1_addParts_43 : decode cX1_addParts 43 = .ok (.iload 9, 2) := by decide +kernel
theorem dX1_addParts_45 : decode cX1_addParts 45 = .ok (.invokestatic 79, 3) := by decide +kernel
theorem dX1_addParts_48 : decode cX1_addParts 48 = .ok (.invokestatic 64, 3) := by decide +kernel
theorem dX1_addParts_51 : decode cX1_addParts 51 = .ok (.istore 10, 2) := by decide +kernel
theorem dX1_addParts_53 : decode cX1_addParts 53 = .ok (.aload_n 0, 1) := by decide +kernel
theorem dX1_addParts_54 : decode cX1_addParts 54 = .ok (.getfield 27, 3) := by decide +kernel
theorem dX1_addParts_57 : decode cX1_addParts 57 = .ok (.invokevirtual 56, 3) := by decide +kernel
theorem dX1_addParts_60 : decode cX1_addParts 60 = .ok (.istore 11, 2) := by decide +kernel
theorem dX1_addParts_62 : decode cX1_addParts 62 = .ok (.aload_n 0, 1) := by decide +kernel
theorem dX1_addParts_63 : decode cX1_addParts 63 = .ok (.getfield 27, 3) := by decide +kernel
theorem dX1_addParts_66 : decode cX1_addParts 66 = .ok (.iload 6, 2) := by decide +kernel
theorem dX1_addParts_68 : decode cX1_addParts 68 = .ok (.iload 6, 2) := by decide +kernel
theorem dX1_addParts_70 : decode cX1_addParts 70 = .ok (.iload 10, 2) := by decide +kernel
theorem dX1_addParts_72 : decode cX1_addParts 72 = .ok (.iadd, 1) := by decide +kernel
theorem dX1_addParts_73 : decode cX1_addParts 73 = .ok (.invokevirtual 69, 3) := by decide +kernel
theorem dX1_addParts_76 : decode cX1_addParts 76 = .ok (.aload_n 0, 1) := by decide +kernel
theorem dX1_addParts_77 : decode cX1_addParts 77 = .ok (.getfield 27, 3) := by decide +kernel
theorem dX1_addParts_80 : decode cX1_addParts 80 = .ok (.iload 11, 2) := by decide +kernel
theorem dX1_addParts_82 : decode cX1_addParts 82 = .ok (.iconst 2, 1) := by decide +kernel
theorem dX1_addParts_83 : decode cX1_addParts 83 = .ok (.iload 8, 2) := by decide +kernel
theorem dX1_addParts_85 : decode cX1_addParts 85 = .ok (.iload 9, 2) := by decide +kernel
theorem dX1_addParts_87 : decode cX1_addParts 87 = .ok (.iload 5, 2) := by decide +kernel
theorem dX1_addParts_89 : decode cX1_addParts 89 = .ok (.invokestatic 82, 3) := by decide +kernel
theorem dX1_addParts_92 : decode cX1_addParts 92 = .ok (.invokevirtual 86, 3) := by decide +kernel
theorem dX1_addParts_95 : decode cX1_addParts 95 = .ok (.iload 6, 2) := by decide +kernel
theorem dX1_addParts_97 : decode cX1_addParts 97 = .ok (.iload 10, 2) := by decide +kernel
theorem dX1_addParts_99 : decode cX1_addParts 99 = .ok (.iadd, 1) := by decide +kernel
theorem dX1_addParts_100 : decode cX1_addParts 100 = .ok (.istore 6, 2) := by decide +kernel
theorem dX1_addParts_102 : decode cX1_addParts 102 = .ok (.iinc 7 1, 3) := by decide +kernel
theorem dX1_addParts_105 : decode cX1_addParts 105 = .ok (.goto (-99), 3) := by decide +kernel
theorem dX1_addParts_108 : decode cX1_addParts 108 = .ok (.return_, 1) := by decide +kernel
theorem dX1_untilLimit_0 : decode cX1_untilLimit 0 = .ok (.sipush 10080, 3) := by decide +kernel
theorem dX1_untilLimit_3 : decode cX1_untilLimit 3 = .ok (.istore_n 2, 1) := by decide +kernel
theorem dX1_untilLimit_4 : decode cX1_untilLimit 4 = .ok (.iload_n 0, 1) := by decide +kernel
theorem dX1_untilLimit_5 : decode cX1_untilLimit 5 = .ok (.sipush 480, 3) := by decide +kernel
theorem dX1_untilLimit_8 : decode cX1_untilLimit 8 = .ok (.if_icmp .ge 12, 3) := by decide +kernel
theorem dX1_untilLimit_11 : decode cX1_untilLimit 11 = .ok (.sipush 480, 3) := by decide +kernel
theorem dX1_untilLimit_14 : decode cX1_untilLimit 14 = .ok (.iload_n 0, 1) := by decide +kernel
theorem dX1_untilLimit_15 : decode cX1_untilLimit 15 = .ok (.isub, 1) := by decide +kernel
theorem dX1_untilLimit_16 : decode cX1_untilLimit 16 = .ok (.istore_n 2, 1) := by decide +kernel
theorem dX1_untilLimit_17 : decode cX1_untilLimit 17 = .ok (.goto 16, 3) := by decide +kernel
theorem dX1_untilLimit_20 : decode cX1_untilLimit 20 = .ok (.iload_n 0, 1) := by decide +kernel
theorem dX1_untilLimit_21 : decode cX1_untilLimit 21 = .ok (.sipush 720, 3) := by decide +kernel
theorem dX1_untilLimit_24 : decode cX1_untilLimit 24 = .ok (.if_icmp .ge 9, 3) := by decide +kernel
theorem dX1_untilLimit_27 : decode cX1_untilLimit 27 = .ok (.sipush 720, 3) := by decide +kernel
theorem dX1_untilLimit_30 : decode cX1_untilLimit 30 = .ok (.iload_n 0, 1) := by decide +kernel
theorem dX1_untilLimit_31 : decode cX1_untilLimit 31 = .ok (.isub, 1) := by decide +kernel
theorem dX1_untilLimit_32 : decode cX1_untilLimit 32 = .ok (.istore_n 2, 1) := by decide +kernel
theorem dX1_untilLimit_33 : decode cX1_untilLimit 33 = .ok (.iload_n 1, 1) := by decide +kernel
theorem dX1_untilLimit_34 : decode cX1_untilLimit 34 = .ok (.sipush 2400, 3) := by decide +kernel
theorem dX1_untilLimit_37 : decode cX1_untilLimit 37 = .ok (.if_icmp .ge 15, 3) := by decide +kernel
theorem dX1_untilLimit_40 : decode cX1_untilLimit 40 = .ok (.iload_n 2, 1) := by decide +kernel
theorem dX1_untilLimit_41 : decode cX1_untilLimit 41 = .ok (.sipush 2400, 3) := by decide +kernel
theorem dX1_untilLimit_44 : decode cX1_untilLimit 44 = .ok (.iload_n 1, 1) := by decide +kernel
theorem dX1_untilLimit_45 : decode cX1_untilLimit 45 = .ok (.isub, 1) := by decide +kernel
theorem dX1_untilLimit_46 : decode cX1_untilLimit 46 = .ok (.invokestatic 64, 3) := by decide +kernel
theorem dX1_untilLimit_49 : decode cX1_untilLimit 49 = .ok (.goto 4, 3) := by decide +kernel
theorem dX1_untilLimit_52 : decode cX1_untilLimit 52 = .ok (.iload_n 2, 1) := by decide +kernel
theorem dX1_untilLimit_53 : decode cX1_untilLimit 53 = .ok (.ireturn, 1) := by decide +kernel
theorem dX1_categoryFor_0 : decode cX1_categoryFor 0 = .ok (.iload_n 0, 1) := by decide +kernel
theorem dX1_categoryFor_1 : decode cX1_categoryFor 1 = .ok (.sipush 720, 3) := by decide +kernel
theorem dX1_categoryFor_4 : decode cX1_categoryFor 4 = .ok (.if_icmp .ge 14, 3) := by decide +kernel
theorem dX1_categoryFor_7 : decode cX1_categoryFor 7 = .ok (.iload_n 2, 1) := by decide +kernel
theorem dX1_categoryFor_8 : decode cX1_categoryFor 8 = .ok (.ifCond .eq 12, 3) := by decide +kernel
theorem dX1_categoryFor_11 : decode cX1_categoryFor 11 = .ok (.iload_n 0, 1) := by decide +kernel
theorem dX1_categoryFor_12 : decode cX1_categoryFor 12 = .ok (.sipush 480, 3) := by decide +kernel
theorem dX1_categoryFor_15 : decode cX1_categoryFor 15 = .ok (.if_icmp .lt 5, 3) := by decide +kernel
theorem dX1_categoryFor_18 : decode cX1_categoryFor 18 = .ok (.iconst 2, 1) := by decide +kernel
theorem dX1_categoryFor_19 : decode cX1_categoryFor 19 = .ok (.ireturn, 1) := by decide +kernel
theorem dX1_categoryFor_20 : decode cX1_categoryFor 20 = .ok (.iload_n 0, 1) := by decide +kernel
theorem dX1_categoryFor_21 : decode cX1_categoryFor 21 = .ok (.sipush 480, 3) := by decide +kernel
theorem dX1_categoryFor_24 : decode cX1_categoryFor 24 = .ok (.if_icmp .ge 14, 3) := by decide +kernel
theorem dX1_categoryFor_27 : decode cX1_categoryFor 27 = .ok (.iload_n 1, 1) := by decide +kernel
theorem dX1_categoryFor_28 : decode cX1_categoryFor 28 = .ok (.sipush 2400, 3) := by decide +kernel
theorem dX1_categoryFor_31 : decode cX1_categoryFor 31 = .ok (.if_icmp .ge 7, 3) := by decide +kernel
theorem dX1_categoryFor_34 : decode cX1_categoryFor 34 = .ok (.iload_n 2, 1) := by decide +kernel
theorem dX1_categoryFor_35 : decode cX1_categoryFor 35 = .ok (.ifCond .eq 7, 3) := by decide +kernel
theorem dX1_categoryFor_38 : decode cX1_categoryFor 38 = .ok (.iconst 1, 1) := by decide +kernel
theorem dX1_categoryFor_39 : decode cX1_categoryFor 39 = .ok (.goto 4, 3) := by decide +kernel
theorem dX1_categoryFor_42 : decode cX1_categoryFor 42 = .ok (.iconst 0, 1) := by decide +kernel
theorem dX1_categoryFor_43 : decode cX1_categoryFor 43 = .ok (.ireturn, 1) := by decide +kernel
theorem dX1_minutesOf_0 : decode cX1_minutesOf 0 = .ok (.iconst 0, 1) := by decide +kernel
theorem dX1_minutesOf_1 : decode cX1_minutesOf 1 = .ok (.istore_n 3, 1) := by decide +kernel
theorem dX1_minutesOf_2 : decode cX1_minutesOf 2 = .ok (.iconst 0, 1) := by decide +kernel
theorem dX1_minutesOf_3 : decode cX1_minutesOf 3 = .ok (.istore 4, 2) := by decide +kernel
theorem dX1_minutesOf_5 : decode cX1_minutesOf 5 = .ok (.iload 4, 2) := by decide +kernel
theorem dX1_minutesOf_7 : decode cX1_minutesOf 7 = .ok (.aload_n 0, 1) := by decide +kernel
theorem dX1_minutesOf_8 : decode cX1_minutesOf 8 = .ok (.getfield 27, 3) := by decide +kernel
theorem dX1_minutesOf_11 : decode cX1_minutesOf 11 = .ok (.invokevirtual 56, 3) := by decide +kernel
theorem dX1_minutesOf_14 : decode cX1_minutesOf 14 = .ok (.if_icmp .ge 65, 3) := by decide +kernel
theorem dX1_minutesOf_17 : decode cX1_minutesOf 17 = .ok (.aload_n 0, 1) := by decide +kernel
theorem dX1_minutesOf_18 : decode cX1_minutesOf 18 = .ok (.getfield 27, 3) := by decide +kernel
theorem dX1_minutesOf_21 : decode cX1_minutesOf 21 = .ok (.iload 4, 2) := by decide +kernel
theorem dX1_minutesOf_23 : decode cX1_minutesOf 23 = .ok (.iconst 2, 1) := by decide +kernel
theorem dX1_minutesOf_24 : decode cX1_minutesOf 24 = .ok (.invokevirtual 60, 3) := by decide +kernel
theorem dX1_minutesOf_27 : decode cX1_minutesOf 27 = .ok (.iload_n 2, 1) := by decide +kernel
theorem dX1_minutesOf_28 : decode cX1_minutesOf 28 = .ok (.if_icmp .ne 45, 3) := by decide +kernel
theorem dX1_minutesOf_31 : decode cX1_minutesOf 31 = .ok (.aload_n 0, 1) := by decide +kernel
theorem dX1_minutesOf_32 : decode cX1_minutesOf 32 = .ok (.getfield 27, 3) := by decide +kernel
theorem dX1_minutesOf_35 : decode cX1_minutesOf 35 = .ok (.iload 4, 2) := by decide +kernel
theorem dX1_minutesOf_37 : decode cX1_minutesOf 37 = .ok (.iconst 0, 1) := by decide +kernel
theorem dX1_minutesOf_38 : decode cX1_minutesOf 38 = .ok (.invokevirtual 60, 3) := by decide +kernel
theorem dX1_minutesOf_41 : decode cX1_minutesOf 41 = .ok (.sipush 1440, 3) := by decide +kernel
theorem dX1_minutesOf_44 : decode cX1_minutesOf 44 = .ok (.idiv, 1) := by decide +kernel
theorem dX1_minutesOf_45 : decode cX1_minutesOf 45 = .ok (.iload_n 1, 1) := by decide +kernel
theorem dX1_minutesOf_46 : decode cX1_minutesOf 46 = .ok (.if_icmp .ne 27, 3) := by decide +kernel
theorem dX1_minutesOf_49 : decode cX1_minutesOf 49 = .ok (.iload_n 3, 1) := by decide +kernel
theorem dX1_minutesOf_50 : decode cX1_minutesOf 50 = .ok (.aload_n 0, 1) := by decide +kernel
theorem dX1_minutesOf_51 : decode cX1_minutesOf 51 = .ok (.getfield 27, 3) := by decide +kernel
theorem dX1_minutesOf_54 : decode cX1_minutesOf 54 = .ok (.iload 4, 2) := by decide +kernel
theorem dX1_minutesOf_56 : decode cX1_minutesOf 56 = .ok (.iconst 1, 1) := by decide +kernel
theorem dX1_minutesOf_57 : decode cX1_minutesOf 57 = .ok (.invokevirtual 60, 3) := by decide +kernel
theorem dX1_minutesOf_60 : decode cX1_minutesOf 60 = .ok (.aload_n 0, 1) := by decide +kernel
theorem dX1_minutesOf_61 : decode cX1_minutesOf 61 = .ok (.getfield 27, 3) := by decide +kernel
theorem dX1_minutesOf_64 : decode cX1_minutesOf 64 = .ok (.iload 4, 2) := by decide +kernel
theorem dX1_minutesOf_66 : decode cX1_minutesOf 66 = .ok (.iconst 0, 1) := by decide +kernel
theorem dX1_minutesOf_67 : decode cX1_minutesOf 67 = .ok (.invokevirtual 60, 3) := by decide +kernel
theorem dX1_minutesOf_70 : decode cX1_minutesOf 70 = .ok (.isub, 1) := by decide +kernel
theorem dX1_minutesOf_71 : decode cX1_minutesOf 71 = .ok (.iadd, 1) := by decide +kernel
theorem dX1_minutesOf_72 : decode cX1_minutesOf 72 = .ok (.istore_n 3, 1) := by decide +kernel
theorem dX1_minutesOf_73 : decode cX1_minutesOf 73 = .ok (.iinc 4 1, 3) := by decide +kernel
theorem dX1_minutesOf_76 : decode cX1_minutesOf 76 = .ok (.goto (-71), 3) := by decide +kernel
theorem dX1_minutesOf_79 : decode cX1_minutesOf 79 = .ok (.iload_n 3, 1) := by decide +kernel
theorem dX1_minutesOf_80 : decode cX1_minutesOf 80 = .ok (.ireturn, 1) := by decide +kernel
theorem dX1_quartersOf_0 : decode cX1_quartersOf 0 = .ok (.aload_n 0, 1) := by decide +kernel
theorem dX1_quartersOf_1 : decode cX1_quartersOf 1 = .ok (.iload_n 1, 1) := by decide +kernel
theorem dX1_quartersOf_2 : decode cX1_quartersOf 2 = .ok (.iload_n 2, 1) := by decide +kernel
theorem dX1_quartersOf_3 : decode cX1_quartersOf 3 = .ok (.invokevirtual 90, 3) := by decide +kernel
theorem dX1_quartersOf_6 : decode cX1_quartersOf 6 = .ok (.istore_n 3, 1) := by decide +kernel
theorem dX1_quartersOf_7 : decode cX1_quartersOf 7 = .ok (.aload_n 0, 1) := by decide +kernel
theorem dX1_quartersOf_8 : decode cX1_quartersOf 8 = .ok (.iload_n 2, 1) := by decide +kernel
theorem dX1_quartersOf_9 : decode cX1_quartersOf 9 = .ok (.invokevirtual 93, 3) := by decide +kernel
theorem dX1_quartersOf_12 : decode cX1_quartersOf 12 = .ok (.istore 4, 2) := by decide +kernel
theorem dX1_quartersOf_14 : decode cX1_quartersOf 14 = .ok (.iconst 0, 1) := by decide +kernel
theorem dX1_quartersOf_15 : decode cX1_quartersOf 15 = .ok (.istore 5, 2) := by decide +kernel
theorem dX1_quartersOf_17 : decode cX1_quartersOf 17 = .ok (.iconst 0, 1) := by decide +kernel
theorem dX1_quartersOf_18 : decode cX1_quartersOf 18 = .ok (.istore 6, 2) := by decide +kernel
theorem dX1_quartersOf_20 : decode cX1_quartersOf 20 = .ok (.iload 6, 2) := by decide +kernel
theorem dX1_quartersOf_22 : decode cX1_quartersOf 22 = .ok (.bipush 7, 2) := by decide +kernel
theorem dX1_quartersOf_24 : decode cX1_quartersOf 24 = .ok (.if_icmp .ge 59, 3) := by decide +kernel
theorem dX1_quartersOf_27 : decode cX1_quartersOf 27 = .ok (.aload_n 0, 1) := by decide +kernel
theorem dX1_quartersOf_28 : decode cX1_quartersOf 28 = .ok (.iload 6, 2) := by decide +kernel
theorem dX1_quartersOf_30 : decode cX1_quartersOf 30 = .ok (.iload_n 2, 1) := by decide +kernel
theorem dX1_quartersOf_31 : decode cX1_quartersOf 31 = .ok (.invokevirtual 90, 3) := by decide +kernel
theorem dX1_quartersOf_34 : decode cX1_quartersOf 34 = .ok (.istore 7, 2) := by decide +kernel
theorem dX1_quartersOf_36 : decode cX1_quartersOf 36 = .ok (.iload 7, 2) := by decide +kernel
theorem dX1_quartersOf_38 : decode cX1_quartersOf 38 = .ok (.bipush 15, 2) := by decide +kernel
theorem dX1_quartersOf_40 : decode cX1_quartersOf 40 = .ok (.irem, 1) := by decide +kernel
theorem dX1_quartersOf_41 : decode cX1_quartersOf 41 = .ok (.iload_n 3, 1) := by decide +kernel
theorem dX1_quartersOf_42 : decode cX1_quartersOf 42 = .ok (.bipush 15, 2) := by decide +kernel
theorem dX1_quartersOf_44 : decode cX1_quartersOf 44 = .ok (.irem, 1) := by decide +kernel
theorem dX1_quartersOf_45 : decode cX1_quartersOf 45 = .ok (.isub, 1) := by decide +kernel
theorem dX1_quartersOf_46 : decode cX1_quartersOf 46 = .ok (.istore 8, 2) := by decide +kernel
theorem dX1_quartersOf_48 : decode cX1_quartersOf 48 = .ok (.iload 4, 2) := by decide +kernel
theorem dX1_quartersOf_50 : decode cX1_quartersOf 50 = .ok (.iload 7, 2) := by decide +kernel
theorem dX1_quartersOf_52 : decode cX1_quartersOf 52 = .ok (.bipush 15, 2) := by decide +kernel
theorem dX1_quartersOf_54 : decode cX1_quartersOf 54 = .ok (.idiv, 1) := by decide +kernel
theorem dX1_quartersOf_55 : decode cX1_quartersOf 55 = .ok (.isub, 1) := by decide +kernel
theorem dX1_quartersOf_56 : decode cX1_quartersOf 56 = .ok (.istore 4, 2) := by decide +kernel
theorem dX1_quartersOf_58 : decode cX1_quartersOf 58 = .ok (.iload 8, 2) := by decide +kernel
theorem dX1_quartersOf_60 : decode cX1_quartersOf 60 = .ok (.ifCond .gt 14, 3) := by decide +kernel
theorem dX1_quartersOf_63 : decode cX1_quartersOf 63 = .ok (.iload 8, 2) := by decide +kernel
theorem dX1_quartersOf_65 : decode cX1_quartersOf 65 = .ok (.ifCond .ne 12, 3) := by decide +kernel
theorem dX1_quartersOf_68 : decode cX1_quartersOf 68 = .ok (.iload 6, 2) := by decide +kernel
theorem dX1_quartersOf_70 : decode cX1_quartersOf 70 = .ok (.iload_n 1, 1) := by decide +kernel
theorem dX1_quartersOf_71 : decode cX1_quartersOf 71 = .ok (.if_icmp .ge 6, 3) := by decide +kernel
theorem dX1_quartersOf_74 : decode cX1_quartersOf 74 = .ok (.iinc 5 1, 3) := by decide +kernel
theorem dX1_quartersOf_77 : decode cX1_quartersOf 77 = .ok (.iinc 6 1, 3) := by decide +kernel
theorem dX1_quartersOf_80 : decode cX1_quartersOf 80 = .ok (.goto (-60), 3) := by decide +kernel
theorem dX1_quartersOf_83 : decode cX1_quartersOf 83 = .ok (.iload_n 3, 1) := by decide +kernel
theorem dX1_quartersOf_84 : decode cX1_quartersOf 84 = .ok (.bipush 15, 2) := by decide +kernel
theorem dX1_quartersOf_86 : decode cX1_quartersOf 86 = .ok (.idiv, 1) := by decide +kernel
theorem dX1_quartersOf_87 : decode cX1_quartersOf 87 = .ok (.iload 5, 2) := by decide +kernel
theorem dX1_quartersOf_89 : decode cX1_quartersOf 89 = .ok (.iload 4, 2) := by decide +kernel
theorem dX1_quartersOf_91 : decode cX1_quartersOf 91 = .ok (.if_icmp .ge 7, 3) := by decide +kernel
theorem dX1_quartersOf_94 : decode cX1_quartersOf 94 = .ok (.iconst 1, 1) := by decide +kernel
theorem dX1_quartersOf_95 : decode cX1_quartersOf 95 = .ok (.goto 4, 3) := by decide +kernel
theorem dX1_quartersOf_98 : decode cX1_quartersOf 98 = .ok (.iconst 0, 1) := by decide +kernel
theorem dX1_quartersOf_99 : decode cX1_quartersOf 99 = .ok (.iadd, 1) := by decide +kernel
theorem dX1_quartersOf_100 : decode cX1_quartersOf 100 = .ok (.ireturn, 1) := by decide +kernel
theorem dX1_quartersOfWeek_0 : decode cX1_quartersOfWeek 0 = .ok (.iconst 0, 1) := by decide +kernel
theorem dX1_quartersOfWeek_1 : decode cX1_quartersOfWeek 1 = .ok (.istore_n 2, 1) := by decide +kernel
theorem dX1_quartersOfWeek_2 : decode cX1_quartersOfWeek 2 = .ok (.iconst 0, 1) := by decide +kernel
theorem dX1_quartersOfWeek_3 : decode cX1_quartersOfWeek 3 = .ok (.istore_n 3, 1) := by decide +kernel
theorem dX1_quartersOfWeek_4 : decode cX1_quartersOfWeek 4 = .ok (.iload_n 3, 1) := by decide +kernel
theorem dX1_quartersOfWeek_5 : decode cX1_quartersOfWeek 5 = .ok (.bipush 7, 2) := by decide +kernel
theorem dX1_quartersOfWeek_7 : decode cX1_quartersOfWeek 7 = .ok (.if_icmp .ge 18, 3) := by decide +kernel
theorem dX1_quartersOfWeek_10 : decode cX1_quartersOfWeek 10 = .ok (.iload_n 2, 1) := by decide +kernel
theorem dX1_quartersOfWeek_11 : decode cX1_quartersOfWeek 11 = .ok (.aload_n 0, 1) := by decide +kernel
theorem dX1_quartersOfWeek_12 : decode cX1_quartersOfWeek 12 = .ok (.iload_n 3, 1) := by decide +kernel
theorem dX1_quartersOfWeek_13 : decode cX1_quartersOfWeek 13 = .ok (.iload_n 1, 1) := by decide +kernel
theorem dX1_quartersOfWeek_14 : decode cX1_quartersOfWeek 14 = .ok (.invokevirtual 90, 3) := by decide +kernel
theorem dX1_quartersOfWeek_17 : decode cX1_quartersOfWeek 17 = .ok (.iadd, 1) := by decide +kernel
theorem dX1_quartersOfWeek_18 : decode cX1_quartersOfWeek 18 = .ok (.istore_n 2, 1) := by decide +kernel
theorem dX1_quartersOfWeek_19 : decode cX1_quartersOfWeek 19 = .ok (.iinc 3 1, 3) := by decide +kernel
theorem dX1_quartersOfWeek_22 : decode cX1_quartersOfWeek 22 = .ok (.goto (-18), 3) := by decide +kernel
theorem dX1_quartersOfWeek_25 : decode cX1_quartersOfWeek 25 = .ok (.iload_n 2, 1) := by decide +kernel
theorem dX1_quartersOfWeek_26 : decode cX1_quartersOfWeek 26 = .ok (.bipush 7, 2) := by decide +kernel
theorem dX1_quartersOfWeek_28 : decode cX1_quartersOfWeek 28 = .ok (.iadd, 1) := by decide +kernel
theorem dX1_quartersOfWeek_29 : decode cX1_quartersOfWeek 29 = .ok (.bipush 15, 2) := by decide +kernel
theorem dX1_quartersOfWeek_31 : decode cX1_quartersOfWeek 31 = .ok (.idiv, 1) := by decide +kernel
theorem dX1_quartersOfWeek_32 : decode cX1_quartersOfWeek 32 = .ok (.ireturn, 1) := by decide +kernel
theorem dX1_basicPay_0 : decode cX1_basicPay 0 = .ok (.iconst 2, 1) := by decide +kernel
theorem dX1_basicPay_1 : decode cX1_basicPay 1 = .ok (.aload_n 0, 1) := by decide +kernel
theorem dX1_basicPay_2 : decode cX1_basicPay 2 = .ok (.iconst 0, 1) := by decide +kernel
theorem dX1_basicPay_3 : decode cX1_basicPay 3 = .ok (.invokevirtual 93, 3) := by decide +kernel
theorem dX1_basicPay_6 : decode cX1_basicPay 6 = .ok (.imul, 1) := by decide +kernel
theorem dX1_basicPay_7 : decode cX1_basicPay 7 = .ok (.iconst 3, 1) := by decide +kernel
theorem dX1_basicPay_8 : decode cX1_basicPay 8 = .ok (.aload_n 0, 1) := by decide +kernel
theorem dX1_basicPay_9 : decode cX1_basicPay 9 = .ok (.iconst 1, 1) := by decide +kernel
theorem dX1_basicPay_10 : decode cX1_basicPay 10 = .ok (.invokevirtual 93, 3) := by decide +kernel
theorem dX1_basicPay_13 : decode cX1_basicPay 13 = .ok (.imul, 1) := by decide +kernel
theorem dX1_basicPay_14 : decode cX1_basicPay 14 = .ok (.iadd, 1) := by decide +kernel
theorem dX1_basicPay_15 : decode cX1_basicPay 15 = .ok (.iconst 4, 1) := by decide +kernel
theorem dX1_basicPay_16 : decode cX1_basicPay 16 = .ok (.aload_n 0, 1) := by decide +kernel
theorem dX1_basicPay_17 : decode cX1_basicPay 17 = .ok (.iconst 2, 1) := by decide +kernel
theorem dX1_basicPay_18 : decode cX1_basicPay 18 = .ok (.invokevirtual 93, 3) := by decide +kernel
theorem dX1_basicPay_21 : decode cX1_basicPay 21 = .ok (.imul, 1) := by decide +kernel
theorem dX1_basicPay_22 : decode cX1_basicPay 22 = .ok (.iadd, 1) := by decide +kernel
theorem dX1_basicPay_23 : decode cX1_basicPay 23 = .ok (.istore_n 2, 1) := by decide +kernel
theorem dX1_basicPay_24 : decode cX1_basicPay 24 = .ok (.iload_n 1, 1) := by decide +kernel
theorem dX1_basicPay_25 : decode cX1_basicPay 25 = .ok (.iload_n 2, 1) := by decide +kernel
theorem dX1_basicPay_26 : decode cX1_basicPay 26 = .ok (.imul, 1) := by decide +kernel
theorem dX1_basicPay_27 : decode cX1_basicPay 27 = .ok (.iconst 4, 1) := by decide +kernel
theorem dX1_basicPay_28 : decode cX1_basicPay 28 = .ok (.iadd, 1) := by decide +kernel
theorem dX1_basicPay_29 : decode cX1_basicPay 29 = .ok (.bipush 8, 2) := by decide +kernel
theorem dX1_basicPay_31 : decode cX1_basicPay 31 = .ok (.idiv, 1) := by decide +kernel
theorem dX1_basicPay_32 : decode cX1_basicPay 32 = .ok (.ireturn, 1) := by decide +kernel
theorem dX6_init_0 : decode cX6_init 0 = .ok (.aload_n 0, 1) := by decide +kernel
theorem dX6_init_1 : decode cX6_init 1 = .ok (.invokespecial 3, 3) := by decide +kernel
theorem dX6_init_4 : decode cX6_init 4 = .ok (.aload_n 0, 1) := by decide +kernel
theorem dX6_init_5 : decode cX6_init 5 = .ok (.bipush 6, 2) := by decide +kernel
theorem dX6_init_7 : decode cX6_init 7 = .ok (.anewarray 9, 3) := by decide +kernel
theorem dX6_init_10 : decode cX6_init 10 = .ok (.putfield 11, 3) := by decide +kernel
theorem dX6_init_13 : decode cX6_init 13 = .ok (.aload_n 0, 1) := by decide +kernel
theorem dX6_init_14 : decode cX6_init 14 = .ok (.iconst 0, 1) := by decide +kernel
theorem dX6_init_15 : decode cX6_init 15 = .ok (.putfield 15, 3) := by decide +kernel
theorem dX6_init_18 : decode cX6_init 18 = .ok (.aload_n 0, 1) := by decide +kernel
theorem dX6_init_19 : decode cX6_init 19 = .ok (.new 19, 3) := by decide +kernel
theorem dX6_init_22 : decode cX6_init 22 = .ok (.dup, 1) := by decide +kernel
theorem dX6_init_23 : decode cX6_init 23 = .ok (.invokespecial 21, 3) := by decide +kernel
theorem dX6_init_26 : decode cX6_init 26 = .ok (.putfield 22, 3) := by decide +kernel
theorem dX6_init_29 : decode cX6_init 29 = .ok (.aload_n 0, 1) := by decide +kernel
theorem dX6_init_30 : decode cX6_init 30 = .ok (.new 26, 3) := by decide +kernel
theorem dX6_init_33 : decode cX6_init 33 = .ok (.dup, 1) := by decide +kernel
theorem dX6_init_34 : decode cX6_init 34 = .ok (.invokespecial 28, 3) := by decide +kernel
theorem dX6_init_37 : decode cX6_init 37 = .ok (.putfield 29, 3) := by decide +kernel
theorem dX6_init_40 : decode cX6_init 40 = .ok (.aload_n 0, 1) := by decide +kernel
theorem dX6_init_41 : decode cX6_init 41 = .ok (.aload_n 0, 1) := by decide +kernel
theorem dX6_init_42 : decode cX6_init 42 = .ok (.getfield 29, 3) := by decide +kernel
theorem dX6_init_45 : decode cX6_init 45 = .ok (.getfield 33, 3) := by decide +kernel
theorem dX6_init_48 : decode cX6_init 48 = .ok (.putfield 37, 3) := by decide +kernel
theorem dX6_init_51 : decode cX6_init 51 = .ok (.aload_n 0, 1) := by decide +kernel
theorem dX6_init_52 : decode cX6_init 52 = .ok (.aload_n 0, 1) := by decide +kernel
theorem dX6_init_53 : decode cX6_init 53 = .ok (.getfield 37, 3) := by decide +kernel
theorem dX6_init_56 : decode cX6_init 56 = .ok (.getfield 38, 3) := by decide +kernel
theorem dX6_init_59 : decode cX6_init 59 = .ok (.putfield 44, 3) := by decide +kernel
theorem dX6_init_62 : decode cX6_init 62 = .ok (.return_, 1) := by decide +kernel
theorem dX6_hire_0 : decode cX6_hire 0 = .ok (.iload_n 1, 1) := by decide +kernel
theorem dX6_hire_1 : decode cX6_hire 1 = .ok (.iconst 1, 1) := by decide +kernel
theorem dX6_hire_2 : decode cX6_hire 2 = .ok (.ldc 45, 2) := by decide +kernel
theorem dX6_hire_4 : decode cX6_hire 4 = .ok (.invokestatic 46, 3) := by decide +kernel
theorem dX6_hire_7 : decode cX6_hire 7 = .ok (.aload_n 0, 1) := by decide +kernel
theorem dX6_hire_8 : decode cX6_hire 8 = .ok (.getfield 15, 3) := by decide +kernel
theorem dX6_hire_11 : decode cX6_hire 11 = .ok (.istore_n 2, 1) := by decide +kernel
theorem dX6_hire_12 : decode cX6_hire 12 = .ok (.iload_n 2, 1) := by decide +kernel
theorem dX6_hire_13 : decode cX6_hire 13 = .ok (.ifCond .lt 12, 3) := by decide +kernel
theorem dX6_hire_16 : decode cX6_hire 16 = .ok (.iload_n 2, 1) := by decide +kernel
theorem dX6_hire_17 : decode cX6_hire 17 = .ok (.aload_n 0, 1) := by decide +kernel
theorem dX6_hire_18 : decode cX6_hire 18 = .ok (.getfield 11, 3) := by decide +kernel
theorem dX6_hire_21 : decode cX6_hire 21 = .ok (.arraylength, 1) := by decide +kernel
theorem dX6_hire_22 : decode cX6_hire 22 = .ok (.if_icmp .lt 13, 3) := by decide +kernel
theorem dX6_hire_25 : decode cX6_hire 25 = .ok (.new 50, 3) := by decide +kernel
theorem dX6_hire_28 : decode cX6_hire 28 = .ok (.dup, 1) := by decide +kernel
theorem dX6_hire_29 : decode cX6_hire 29 = .ok (.ldc 52, 2) := by decide +kernel
theorem dX6_hire_31 : decode cX6_hire 31 = .ok (.invokespecial 54, 3) := by decide +kernel
theorem dX6_hire_34 : decode cX6_hire 34 = .ok (.athrow, 1) := by decide +kernel
theorem dX6_hire_35 : decode cX6_hire 35 = .ok (.aload_n 0, 1) := by decide +kernel
theorem dX6_hire_36 : decode cX6_hire 36 = .ok (.getfield 11, 3) := by decide +kernel
theorem dX6_hire_39 : decode cX6_hire 39 = .ok (.iload_n 2, 1) := by decide +kernel
theorem dX6_hire_40 : decode cX6_hire 40 = .ok (.new 9, 3) := by decide +kernel
theorem dX6_hire_43 : decode cX6_hire 43 = .ok (.dup, 1) := by decide +kernel
theorem dX6_hire_44 : decode cX6_hire 44 = .ok (.iload_n 1, 1) := by decide +kernel
theorem dX6_hire_45 : decode cX6_hire 45 = .ok (.invokespecial 57, 3) := by decide +kernel
theorem dX6_hire_48 : decode cX6_hire 48 = .ok (.aastore, 1) := by decide +kernel
theorem dX6_hire_49 : decode cX6_hire 49 = .ok (.aload_n 0, 1) := by decide +kernel
theorem dX6_hire_50 : decode cX6_hire 50 = .ok (.iload_n 2, 1) := by decide +kernel
theorem dX6_hire_51 : decode cX6_hire 51 = .ok (.iconst 1, 1) := by decide +kernel
theorem dX6_hire_52 : decode cX6_hire 52 = .ok (.iadd, 1) := by decide +kernel
theorem dX6_hire_53 : decode cX6_hire 53 = .ok (.putfield 15, 3) := by decide +kernel
theorem dX6_hire_56 : decode cX6_hire 56 = .ok (.iload_n 2, 1) := by decide +kernel
theorem dX6_hire_57 : decode cX6_hire 57 = .ok (.ireturn, 1) := by decide +kernel
theorem dX6_enter_0 : decode cX6_enter 0 = .ok (.aload_n 0, 1) := by decide +kernel
theorem dX6_enter_1 : decode cX6_enter 1 = .ok (.iload_n 1, 1) := by decide +kernel
theorem dX6_enter_2 : decode cX6_enter 2 = .ok (.invokevirtual 60, 3) := by decide +kernel
theorem dX6_enter_5 : decode cX6_enter 5 = .ok (.getfield 109, 3) := by decide +kernel
theorem dX6_enter_8 : decode cX6_enter 8 = .ok (.iload_n 2, 1) := by decide +kernel
theorem dX6_enter_9 : decode cX6_enter 9 = .ok (.iload_n 3, 1) := by decide +kernel
theorem dX6_enter_10 : decode cX6_enter 10 = .ok (.bipush 20, 2) := by decide +kernel
theorem dX6_enter_12 : decode cX6_enter 12 = .ok (.invokestatic 112, 3) := by decide +kernel
theorem dX6_enter_15 : decode cX6_enter 15 = .ok (.ireturn, 1) := by decide +kernel
theorem dX6_enterBreak_0 : decode cX6_enterBreak 0 = .ok (.aload_n 0, 1) := by decide +kernel
theorem dX6_enterBreak_1 : decode cX6_enterBreak 1 = .ok (.iload_n 1, 1) := by decide +kernel
theorem dX6_enterBreak_2 : decode cX6_enterBreak 2 = .ok (.invokevirtual 60, 3) := by decide +kernel
theorem dX6_enterBreak_5 : decode cX6_enterBreak 5 = .ok (.getfield 119, 3) := by decide +kernel
theorem dX6_enterBreak_8 : decode cX6_enterBreak 8 = .ok (.iload_n 2, 1) := by decide +kernel
theorem dX6_enterBreak_9 : decode cX6_enterBreak 9 = .ok (.iload_n 3, 1) := by decide +kernel
theorem dX6_enterBreak_10 : decode cX6_enterBreak 10 = .ok (.bipush 20, 2) := by decide +kernel
theorem dX6_enterBreak_12 : decode cX6_enterBreak 12 = .ok (.invokestatic 112, 3) := by decide +kernel
theorem dX6_enterBreak_15 : decode cX6_enterBreak 15 = .ok (.ireturn, 1) := by decide +kernel
theorem dX6_addPremium_0 : decode cX6_addPremium 0 = .ok (.iload_n 1, 1) := by decide +kernel
theorem dX6_addPremium_1 : decode cX6_addPremium 1 = .ok (.iconst 1, 1) := by decide +kernel
theorem dX6_addPremium_2 : decode cX6_addPremium 2 = .ok (.bipush 127, 2) := by decide +kernel
theorem dX6_addPremium_4 : decode cX6_addPremium 4 = .ok (.invokestatic 46, 3) := by decide +kernel
theorem dX6_addPremium_7 : decode cX6_addPremium 7 = .ok (.iload_n 2, 1) := by decide +kernel
theorem dX6_addPremium_8 : decode cX6_addPremium 8 = .ok (.iconst 0, 1) := by decide +kernel
theorem dX6_addPremium_9 : decode cX6_addPremium 9 = .ok (.sipush 1439, 3) := by decide +kernel
theorem dX6_addPremium_12 : decode cX6_addPremium 12 = .ok (.invokestatic 46, 3) := by decide +kernel
theorem dX6_addPremium_15 : decode cX6_addPremium 15 = .ok (.iload_n 3, 1) := by decide +kernel
theorem dX6_addPremium_16 : decode cX6_addPremium 16 = .ok (.iconst 0, 1) := by decide +kernel
theorem dX6_addPremium_17 : decode cX6_addPremium 17 = .ok (.sipush 1439, 3) := by decide +kernel
theorem dX6_addPremium_20 : decode cX6_addPremium 20 = .ok (.invokestatic 46, 3) := by decide +kernel
theorem dX6_addPremium_23 : decode cX6_addPremium 23 = .ok (.iload 4, 2) := by decide +kernel
theorem dX6_addPremium_25 : decode cX6_addPremium 25 = .ok (.iconst 1, 1) := by decide +kernel
theorem dX6_addPremium_26 : decode cX6_addPremium 26 = .ok (.sipush 10000, 3) := by decide +kernel
theorem dX6_addPremium_29 : decode cX6_addPremium 29 = .ok (.invokestatic 46, 3) := by decide +kernel
theorem dX6_addPremium_32 : decode cX6_addPremium 32 = .ok (.aload_n 0, 1) := by decide +kernel
theorem dX6_addPremium_33 : decode cX6_addPremium 33 = .ok (.getfield 22, 3) := by decide +kernel
theorem dX6_addPremium_36 : decode cX6_addPremium 36 = .ok (.getfield 122, 3) := by decide +kernel
theorem dX6_addPremium_39 : decode cX6_addPremium 39 = .ok (.bipush 6, 2) := by decide +kernel
theorem dX6_addPremium_41 : decode cX6_addPremium 41 = .ok (.invokestatic 71, 3) := by decide +kernel
theorem dX6_addPremium_44 : decode cX6_addPremium 44 = .ok (.aload_n 0, 1) := by decide +kernel
theorem dX6_addPremium_45 : decode cX6_addPremium 45 = .ok (.getfield 22, 3) := by decide +kernel
theorem dX6_addPremium_48 : decode cX6_addPremium 48 = .ok (.iload_n 1, 1) := by decide +kernel
theorem dX6_addPremium_49 : decode cX6_addPremium 49 = .ok (.iload_n 2, 1) := by decide +kernel
theorem dX6_addPremium_50 : decode cX6_addPremium 50 = .ok (.iload_n 3, 1) := by decide +kernel
theorem dX6_addPremium_51 : decode cX6_addPremium 51 = .ok (.iload 4, 2) := by decide +kernel
theorem dX6_addPremium_53 : decode cX6_addPremium 53 = .ok (.invokevirtual 125, 3) := by decide +kernel
theorem dX6_addPremium_56 : decode cX6_addPremium 56 = .ok (.ireturn, 1) := by decide +kernel
theorem dX6_closeWeek_0 : decode cX6_closeWeek 0 = .ok (.aload_n 0, 1) := by decide +kernel
theorem dX6_closeWeek_1 : decode cX6_closeWeek 1 = .ok (.iload_n 1, 1) := by decide +kernel
theorem dX6_closeWeek_2 : decode cX6_closeWeek 2 = .ok (.invokevirtual 60, 3) := by decide +kernel
theorem dX6_closeWeek_5 : decode cX6_closeWeek 5 = .ok (.astore_n 2, 1) := by decide +kernel
theorem dX6_closeWeek_6 : decode cX6_closeWeek 6 = .ok (.aload_n 2, 1) := by decide +kernel
theorem dX6_closeWeek_7 : decode cX6_closeWeek 7 = .ok (.getfield 67, 3) := by decide +kernel
theorem dX6_closeWeek_10 : decode cX6_closeWeek 10 = .ok (.invokevirtual 93, 3) := by decide +kernel
theorem dX6_closeWeek_13 : decode cX6_closeWeek 13 = .ok (.ifCond .ne 23, 3) := by decide +kernel
theorem dX6_closeWeek_16 : decode cX6_closeWeek 16 = .ok (.aload_n 2, 1) := by decide +kernel
theorem dX6_closeWeek_17 : decode cX6_closeWeek 17 = .ok (.getfield 109, 3) := by decide +kernel
theorem dX6_closeWeek_20 : decode cX6_closeWeek 20 = .ok (.invokevirtual 93, 3) := by decide +kernel
theorem dX6_closeWeek_23 : decode cX6_closeWeek 23 = .ok (.ifCond .ne 13, 3) := by decide +kernel
theorem dX6_closeWeek_26 : decode cX6_closeWeek 26 = .ok (.new 50, 3) := by decide +kernel
theorem dX6_closeWeek_29 : decode cX6_closeWeek 29 = .ok (.dup, 1) := by decide +kernel
theorem dX6_closeWeek_30 : decode cX6_closeWeek 30 = .ok (.ldc 129, 2) := by decide +kernel
theorem dX6_closeWeek_32 : decode cX6_closeWeek 32 = .ok (.invokespecial 54, 3) := by decide +kernel
theorem dX6_closeWeek_35 : decode cX6_closeWeek 35 = .ok (.athrow, 1) := by decide +kernel
theorem dX6_closeWeek_36 : decode cX6_closeWeek 36 = .ok (.aload_n 0, 1) := by decide +kernel
theorem dX6_closeWeek_37 : decode cX6_closeWeek 37 = .ok (.getfield 29, 3) := by decide +kernel
theorem dX6_closeWeek_40 : decode cX6_closeWeek 40 = .ok (.aload_n 2, 1) := by decide +kernel
theorem dX6_closeWeek_41 : decode cX6_closeWeek 41 = .ok (.invokevirtual 131, 3) := by decide +kernel
theorem dX6_closeWeek_44 : decode cX6_closeWeek 44 = .ok (.aload_n 0, 1) := by decide +kernel
theorem dX6_closeWeek_45 : decode cX6_closeWeek 45 = .ok (.getfield 29, 3) := by decide +kernel
theorem dX6_closeWeek_48 : decode cX6_closeWeek 48 = .ok (.aload_n 2, 1) := by decide +kernel
theorem dX6_closeWeek_49 : decode cX6_closeWeek 49 = .ok (.getfield 64, 3) := by decide +kernel
theorem dX6_closeWeek_52 : decode cX6_closeWeek 52 = .ok (.invokevirtual 135, 3) := by decide +kernel
theorem dX6_closeWeek_55 : decode cX6_closeWeek 55 = .ok (.aload_n 0, 1) := by decide +kernel
theorem dX6_closeWeek_56 : decode cX6_closeWeek 56 = .ok (.getfield 22, 3) := by decide +kernel
theorem dX6_closeWeek_59 : decode cX6_closeWeek 59 = .ok (.aload_n 0, 1) := by decide +kernel
theorem dX6_closeWeek_60 : decode cX6_closeWeek 60 = .ok (.getfield 29, 3) := by decide +kernel
theorem dX6_closeWeek_63 : decode cX6_closeWeek 63 = .ok (.getfield 139, 3) := by decide +kernel
theorem dX6_closeWeek_66 : decode cX6_closeWeek 66 = .ok (.invokevirtual 142, 3) := by decide +kernel
theorem dX6_closeWeek_69 : decode cX6_closeWeek 69 = .ok (.iadd, 1) := by decide +kernel
theorem dX6_closeWeek_70 : decode cX6_closeWeek 70 = .ok (.istore_n 3, 1) := by decide +kernel
theorem dX6_closeWeek_71 : decode cX6_closeWeek 71 = .ok (.aload_n 2, 1) := by decide +kernel
theorem dX6_closeWeek_72 : decode cX6_closeWeek 72 = .ok (.iload_n 3, 1) := by decide +kernel
theorem dX6_closeWeek_73 : decode cX6_closeWeek 73 = .ok (.invokevirtual 146, 3) := by decide +kernel
theorem dX6_closeWeek_76 : decode cX6_closeWeek 76 = .ok (.iload_n 3, 1) := by decide +kernel
theorem dX6_closeWeek_77 : decode cX6_closeWeek 77 = .ok (.ireturn, 1) := by decide +kernel
theorem dX6_closedWeeks_0 : decode cX6_closedWeeks 0 = .ok (.aload_n 0, 1) := by decide +kernel
theorem dX6_closedWeeks_1 : decode cX6_closedWeeks 1 = .ok (.iload_n 1, 1) := by decide +kernel
theorem dX6_closedWeeks_2 : decode cX6_closedWeeks 2 = .ok (.invokevirtual 60, 3) := by decide +kernel
theorem dX6_closedWeeks_5 : decode cX6_closedWeeks 5 = .ok (.getfield 149, 3) := by decide +kernel
theorem dX6_closedWeeks_8 : decode cX6_closedWeeks 8 = .ok (.ireturn, 1) := by decide +kernel
theorem dX6_earned_0 : decode cX6_earned 0 = .ok (.aload_n 0, 1) := by decide +kernel
theorem dX6_earned_1 : decode cX6_earned 1 = .ok (.iload_n 1, 1) := by decide +kernel
theorem dX6_earned_2 : decode cX6_earned 2 = .ok (.invokevirtual 60, 3) := by decide +kernel
theorem dX6_earned_5 : decode cX6_earned 5 = .ok (.getfield 152, 3) := by decide +kernel
theorem dX6_earned_8 : decode cX6_earned 8 = .ok (.lreturn, 1) := by decide +kernel
theorem dX6_shifts_0 : decode cX6_shifts 0 = .ok (.aload_n 0, 1) := by decide +kernel
theorem dX6_shifts_1 : decode cX6_shifts 1 = .ok (.getfield 44, 3) := by decide +kernel
theorem dX6_shifts_4 : decode cX6_shifts 4 = .ok (.aload_n 0, 1) := by decide +kernel
theorem dX6_shifts_5 : decode cX6_shifts 5 = .ok (.iload_n 1, 1) := by decide +kernel
theorem dX6_shifts_6 : decode cX6_shifts 6 = .ok (.invokevirtual 60, 3) := by decide +kernel
theorem dX6_shifts_9 : decode cX6_shifts 9 = .ok (.getfield 67, 3) := by decide +kernel
theorem dX6_shifts_12 : decode cX6_shifts 12 = .ok (.invokevirtual 156, 3) := by decide +kernel
theorem dX6_shifts_15 : decode cX6_shifts 15 = .ok (.aload_n 0, 1) := by decide +kernel
theorem dX6_shifts_16 : decode cX6_shifts 16 = .ok (.getfield 44, 3) := by decide +kernel
theorem dX6_shifts_19 : decode cX6_shifts 19 = .ok (.getfield 161, 3) := by decide +kernel
theorem dX6_shifts_22 : decode cX6_shifts 22 = .ok (.invokevirtual 93, 3) := by decide +kernel
theorem dX6_shifts_25 : decode cX6_shifts 25 = .ok (.ireturn, 1) := by decide +kernel
theorem dX6_repairedShifts_0 : decode cX6_repairedShifts 0 = .ok (.aload_n 0, 1) := by decide +kernel
theorem dX6_repairedShifts_1 : decode cX6_repairedShifts 1 = .ok (.getfield 44, 3) := by decide +kernel
theorem dX6_repairedShifts_4 : decode cX6_repairedShifts 4 = .ok (.aload_n 0, 1) := by decide +kernel
theorem dX6_repairedShifts_5 : decode cX6_repairedShifts 5 = .ok (.iload_n 1, 1) := by decide +kernel
theorem dX6_repairedShifts_6 : decode cX6_repairedShifts 6 = .ok (.invokevirtual 60, 3) := by decide +kernel
theorem dX6_repairedShifts_9 : decode cX6_repairedShifts 9 = .ok (.getfield 67, 3) := by decide +kernel
theorem dX6_repairedShifts_12 : decode cX6_repairedShifts 12 = .ok (.invokevirtual 156, 3) := by decide +kernel
theorem dX6_repairedShifts_15 : decode cX6_repairedShifts 15 = .ok (.aload_n 0, 1) := by decide +kernel
theorem dX6_repairedShifts_16 : decode cX6_repairedShifts 16 = .ok (.getfield 44, 3) := by decide +kernel
theorem dX6_repairedShifts_19 : decode cX6_repairedShifts 19 = .ok (.getfield 167, 3) := by decide +kernel
theorem dX6_repairedShifts_22 : decode cX6_repairedShifts 22 = .ok (.ireturn, 1) := by decide +kernel
theorem dX6_overlap_0 : decode cX6_overlap 0 = .ok (.aload_n 0, 1) := by decide +kernel
theorem dX6_overlap_1 : decode cX6_overlap 1 = .ok (.getfield 37, 3) := by decide +kernel
theorem dX6_overlap_4 : decode cX6_overlap 4 = .ok (.aload_n 0, 1) := by decide +kernel
theorem dX6_overlap_5 : decode cX6_overlap 5 = .ok (.iload_n 1, 1) := by decide +kernel
theorem dX6_overlap_6 : decode cX6_overlap 6 = .ok (.invokevirtual 60, 3) := by decide +kernel
theorem dX6_overlap_9 : decode cX6_overlap 9 = .ok (.invokevirtual 173, 3) := by decide +kernel
theorem dX6_overlap_12 : decode cX6_overlap 12 = .ok (.aload_n 0, 1) := by decide +kernel
theorem dX6_overlap_13 : decode cX6_overlap 13 = .ok (.getfield 37, 3) := by decide +kernel
theorem dX6_overlap_16 : decode cX6_overlap 16 = .ok (.getfield 174, 3) := by decide +kernel
theorem dX6_overlap_19 : decode cX6_overlap 19 = .ok (.ireturn, 1) := by decide +kernel
theorem dX6_workedOn_0 : decode cX6_workedOn 0 = .ok (.aload_n 0, 1) := by decide +kernel
theorem dX6_workedOn_1 : decode cX6_workedOn 1 = .ok (.iload_n 1, 1) := by decide +kernel
theorem dX6_workedOn_2 : decode cX6_workedOn 2 = .ok (.invokevirtual 60, 3) := by decide +kernel
theorem dX6_workedOn_5 : decode cX6_workedOn 5 = .ok (.astore_n 3, 1) := by decide +kernel
theorem dX6_workedOn_6 : decode cX6_workedOn 6 = .ok (.iload_n 2, 1) := by decide +kernel
theorem dX6_workedOn_7 : decode cX6_workedOn 7 = .ok (.iconst 0, 1) := by decide +kernel
theorem dX6_workedOn_8 : decode cX6_workedOn 8 = .ok (.bipush 6, 2) := by decide +kernel
theorem dX6_workedOn_10 : decode cX6_workedOn 10 = .ok (.invokestatic 46, 3) := by decide +kernel
theorem dX6_workedOn_13 : decode cX6_workedOn 13 = .ok (.aload_n 0, 1) := by decide +kernel
theorem dX6_workedOn_14 : decode cX6_workedOn 14 = .ok (.getfield 37, 3) := by decide +kernel
theorem dX6_workedOn_17 : decode cX6_workedOn 17 = .ok (.aload_n 3, 1) := by decide +kernel
theorem dX6_workedOn_18 : decode cX6_workedOn 18 = .ok (.invokevirtual 173, 3) := by decide +kernel
theorem dX6_workedOn_21 : decode cX6_workedOn 21 = .ok (.aload_n 0, 1) := by decide +kernel
theorem dX6_workedOn_22 : decode cX6_workedOn 22 = .ok (.getfield 37, 3) := by decide +kernel
theorem dX6_workedOn_25 : decode cX6_workedOn 25 = .ok (.getfield 177, 3) := by decide +kernel
theorem dX6_workedOn_28 : decode cX6_workedOn 28 = .ok (.iload_n 2, 1) := by decide +kernel
theorem dX6_workedOn_29 : decode cX6_workedOn 29 = .ok (.invokestatic 180, 3) := by decide +kernel
theorem dX6_workedOn_32 : decode cX6_workedOn 32 = .ok (.ireturn, 1) := by decide +kernel
theorem dX6_stretches_0 : decode cX6_stretches 0 = .ok (.aload_n 0, 1) := by decide +kernel
theorem dX6_stretches_1 : decode cX6_stretches 1 = .ok (.getfield 37, 3) := by decide +kernel
theorem dX6_stretches_4 : decode cX6_stretches 4 = .ok (.aload_n 0, 1) := by decide +kernel
theorem dX6_stretches_5 : decode cX6_stretches 5 = .ok (.iload_n 1, 1) := by decide +kernel
theorem dX6_stretches_6 : decode cX6_stretches 6 = .ok (.invokevirtual 60, 3) := by decide +kernel
theorem dX6_stretches_9 : decode cX6_stretches 9 = .ok (.invokevirtual 173, 3) := by decide +kernel
theorem dX6_stretches_12 : decode cX6_stretches 12 = .ok (.aload_n 0, 1) := by decide +kernel
theorem dX6_stretches_13 : decode cX6_stretches 13 = .ok (.getfield 37, 3) := by decide +kernel
theorem dX6_stretches_16 : decode cX6_stretches 16 = .ok (.getfield 177, 3) := by decide +kernel
theorem dX6_stretches_19 : decode cX6_stretches 19 = .ok (.invokevirtual 93, 3) := by decide +kernel
theorem dX6_stretches_22 : decode cX6_stretches 22 = .ok (.ireturn, 1) := by decide +kernel
theorem dX6_longestStretch_0 : decode cX6_longestStretch 0 = .ok (.aload_n 0, 1) := by decide +kernel
theorem dX6_longestStretch_1 : decode cX6_longestStretch 1 = .ok (.getfield 37, 3) := by decide +kernel
theorem dX6_longestStretch_4 : decode cX6_longestStretch 4 = .ok (.aload_n 0, 1) := by decide +kernel
theorem dX6_longestStretch_5 : decode cX6_longestStretch 5 = .ok (.iload_n 1, 1) := by decide +kernel
theorem dX6_longestStretch_6 : decode cX6_longestStretch 6 = .ok (.invokevirtual 60, 3) := by decide +kernel
theorem dX6_longestStretch_9 : decode cX6_longestStretch 9 = .ok (.invokevirtual 173, 3) := by decide +kernel
theorem dX6_longestStretch_12 : decode cX6_longestStretch 12 = .ok (.aload_n 0, 1) := by decide +kernel
theorem dX6_longestStretch_13 : decode cX6_longestStretch 13 = .ok (.getfield 37, 3) := by decide +kernel
theorem dX6_longestStretch_16 : decode cX6_longestStretch 16 = .ok (.getfield 177, 3) := by decide +kernel
theorem dX6_longestStretch_19 : decode cX6_longestStretch 19 = .ok (.invokestatic 183, 3) := by decide +kernel
theorem dX6_longestStretch_22 : decode cX6_longestStretch 22 = .ok (.ireturn, 1) := by decide +kernel
theorem dX6_minutes_0 : decode cX6_minutes 0 = .ok (.aload_n 0, 1) := by decide +kernel
theorem dX6_minutes_1 : decode cX6_minutes 1 = .ok (.iload_n 1, 1) := by decide +kernel
theorem dX6_minutes_2 : decode cX6_minutes 2 = .ok (.invokevirtual 60, 3) := by decide +kernel
theorem dX6_minutes_5 : decode cX6_minutes 5 = .ok (.astore 4, 2) := by decide +kernel
theorem dX6_minutes_7 : decode cX6_minutes 7 = .ok (.iload_n 2, 1) := by decide +kernel
theorem dX6_minutes_8 : decode cX6_minutes 8 = .ok (.iconst 0, 1) := by decide +kernel
theorem dX6_minutes_9 : decode cX6_minutes 9 = .ok (.bipush 6, 2) := by decide +kernel
theorem dX6_minutes_11 : decode cX6_minutes 11 = .ok (.invokestatic 46, 3) := by decide +kernel
theorem dX6_minutes_14 : decode cX6_minutes 14 = .ok (.iload_n 3, 1) := by decide +kernel
theorem dX6_minutes_15 : decode cX6_minutes 15 = .ok (.iconst 0, 1) := by decide +kernel
theorem dX6_minutes_16 : decode cX6_minutes 16 = .ok (.iconst 2, 1) := by decide +kernel
theorem dX6_minutes_17 : decode cX6_minutes 17 = .ok (.invokestatic 46, 3) := by decide +kernel
theorem dX6_minutes_20 : decode cX6_minutes 20 = .ok (.aload_n 0, 1) := by decide +kernel
theorem dX6_minutes_21 : decode cX6_minutes 21 = .ok (.getfield 29, 3) := by decide +kernel
theorem dX6_minutes_24 : decode cX6_minutes 24 = .ok (.aload 4, 2) := by decide +kernel
theorem dX6_minutes_26 : decode cX6_minutes 26 = .ok (.invokevirtual 131, 3) := by decide +kernel
theorem dX6_minutes_29 : decode cX6_minutes 29 = .ok (.aload_n 0, 1) := by decide +kernel
theorem dX6_minutes_30 : decode cX6_minutes 30 = .ok (.getfield 29, 3) := by decide +kernel
theorem dX6_minutes_33 : decode cX6_minutes 33 = .ok (.iload_n 2, 1) := by decide +kernel
theorem dX6_minutes_34 : decode cX6_minutes 34 = .ok (.iload_n 3, 1) := by decide +kernel
theorem dX6_minutes_35 : decode cX6_minutes 35 = .ok (.invokevirtual 189, 3) := by decide +kernel
theorem dX6_minutes_38 : decode cX6_minutes 38 = .ok (.ireturn, 1) := by decide +kernel
theorem dX6_quarters_0 : decode cX6_quarters 0 = .ok (.aload_n 0, 1) := by decide +kernel
theorem dX6_quarters_1 : decode cX6_quarters 1 = .ok (.iload_n 1, 1) := by decide +kernel
theorem dX6_quarters_2 : decode cX6_quarters 2 = .ok (.invokevirtual 60, 3) := by decide +kernel
theorem dX6_quarters_5 : decode cX6_quarters 5 = .ok (.astore 4, 2) := by decide +kernel
theorem dX6_quarters_7 : decode cX6_quarters 7 = .ok (.iload_n 2, 1) := by decide +kernel
theorem dX6_quarters_8 : decode cX6_quarters 8 = .ok (.iconst 0, 1) := by decide +kernel
theorem dX6_quarters_9 : decode cX6_quarters 9 = .ok (.bipush 6, 2) := by decide +kernel
theorem dX6_quarters_11 : decode cX6_quarters 11 = .ok (.invokestatic 46, 3) := by decide +kernel
theorem dX6_quarters_14 : decode cX6_quarters 14 = .ok (.iload_n 3, 1) := by decide +kernel
theorem dX6_quarters_15 : decode cX6_quarters 15 = .ok (.iconst 0, 1) := by decide +kernel
theorem dX6_quarters_16 : decode cX6_quarters 16 = .ok (.iconst 2, 1) := by decide +kernel
theorem dX6_quarters_17 : decode cX6_quarters 17 = .ok (.invokestatic 46, 3) := by decide +kernel
theorem dX6_quarters_20 : decode cX6_quarters 20 = .ok (.aload_n 0, 1) := by decide +kernel
theorem dX6_quarters_21 : decode cX6_quarters 21 = .ok (.getfield 29, 3) := by decide +kernel
theorem dX6_quarters_24 : decode cX6_quarters 24 = .ok (.aload 4, 2) := by decide +kernel
theorem dX6_quarters_26 : decode cX6_quarters 26 = .ok (.invokevirtual 131, 3) := by decide +kernel
theorem dX6_quarters_29 : decode cX6_quarters 29 = .ok (.aload_n 0, 1) := by decide +kernel
theorem dX6_quarters_30 : decode cX6_quarters 30 = .ok (.getfield 29, 3) := by decide +kernel
theorem dX6_quarters_33 : decode cX6_quarters 33 = .ok (.iload_n 2, 1) := by decide +kernel
theorem dX6_quarters_34 : decode cX6_quarters 34 = .ok (.iload_n 3, 1) := by decide +kernel
theorem dX6_quarters_35 : decode cX6_quarters 35 = .ok (.invokevirtual 192, 3) := by decide +kernel
theorem dX6_quarters_38 : decode cX6_quarters 38 = .ok (.ireturn, 1) := by decide +kernel
theorem dX6_premiumPay_0 : decode cX6_premiumPay 0 = .ok (.aload_n 0, 1) := by decide +kernel
theorem dX6_premiumPay_1 : decode cX6_premiumPay 1 = .ok (.getfield 29, 3) := by decide +kernel
theorem dX6_premiumPay_4 : decode cX6_premiumPay 4 = .ok (.aload_n 0, 1) := by decide +kernel
theorem dX6_premiumPay_5 : decode cX6_premiumPay 5 = .ok (.iload_n 1, 1) := by decide +kernel
theorem dX6_premiumPay_6 : decode cX6_premiumPay 6 = .ok (.invokevirtual 60, 3) := by decide +kernel
theorem dX6_premiumPay_9 : decode cX6_premiumPay 9 = .ok (.invokevirtual 131, 3) := by decide +kernel
theorem dX6_premiumPay_12 : decode cX6_premiumPay 12 = .ok (.aload_n 0, 1) := by decide +kernel
theorem dX6_premiumPay_13 : decode cX6_premiumPay 13 = .ok (.getfield 22, 3) := by decide +kernel
theorem dX6_premiumPay_16 : decode cX6_premiumPay 16 = .ok (.aload_n 0, 1) := by decide +kernel
theorem dX6_premiumPay_17 : decode cX6_premiumPay 17 = .ok (.getfield 29, 3) := by decide +kernel
theorem dX6_premiumPay_20 : decode cX6_premiumPay 20 = .ok (.getfield 139, 3) := by decide +kernel
theorem dX6_premiumPay_23 : decode cX6_premiumPay 23 = .ok (.invokevirtual 142, 3) := by decide +kernel
theorem dX6_premiumPay_26 : decode cX6_premiumPay 26 = .ok (.ireturn, 1) := by decide +kernel
theorem dX6_pay_0 : decode cX6_pay 0 = .ok (.aload_n 0, 1) := by decide +kernel
theorem dX6_pay_1 : decode cX6_pay 1 = .ok (.iload_n 1, 1) := by decide +kernel
theorem dX6_pay_2 : decode cX6_pay 2 = .ok (.invokevirtual 60, 3) := by decide +kernel
theorem dX6_pay_5 : decode cX6_pay 5 = .ok (.astore_n 2, 1) := by decide +kernel
theorem dX6_pay_6 : decode cX6_pay 6 = .ok (.aload_n 0, 1) := by decide +kernel
theorem dX6_pay_7 : decode cX6_pay 7 = .ok (.getfield 29, 3) := by decide +kernel
theorem dX6_pay_10 : decode cX6_pay 10 = .ok (.aload_n 2, 1) := by decide +kernel
theorem dX6_pay_11 : decode cX6_pay 11 = .ok (.invokevirtual 131, 3) := by decide +kernel
theorem dX6_pay_14 : decode cX6_pay 14 = .ok (.aload_n 0, 1) := by decide +kernel
theorem dX6_pay_15 : decode cX6_pay 15 = .ok (.getfield 29, 3) := by decide +kernel
theorem dX6_pay_18 : decode cX6_pay 18 = .ok (.aload_n 2, 1) := by decide +kernel
theorem dX6_pay_19 : decode cX6_pay 19 = .ok (.getfield 64, 3) := by decide +kernel
theorem dX6_pay_22 : decode cX6_pay 22 = .ok (.invokevirtual 135, 3) := by decide +kernel
theorem dX6_pay_25 : decode cX6_pay 25 = .ok (.aload_n 0, 1) := by decide +kernel
theorem dX6_pay_26 : decode cX6_pay 26 = .ok (.getfield 22, 3) := by decide +kernel
theorem dX6_pay_29 : decode cX6_pay 29 = .ok (.aload_n 0, 1) := by decide +kernel
theorem dX6_pay_30 : decode cX6_pay 30 = .ok (.getfield 29, 3) := by decide +kernel
theorem dX6_pay_33 : decode cX6_pay 33 = .ok (.getfield 139, 3) := by decide +kernel
theorem dX6_pay_36 : decode cX6_pay 36 = .ok (.invokevirtual 142, 3) := by decide +kernel
theorem dX6_pay_39 : decode cX6_pay 39 = .ok (.iadd, 1) := by decide +kernel
theorem dX6_pay_40 : decode cX6_pay 40 = .ok (.ireturn, 1) := by decide +kernel
theorem dX6_find_0 : decode cX6_find 0 = .ok (.iload_n 1, 1) := by decide +kernel
theorem dX6_find_1 : decode cX6_find 1 = .ok (.ifCond .lt 20, 3) := by decide +kernel
theorem dX6_find_4 : decode cX6_find 4 = .ok (.iload_n 1, 1) := by decide +kernel
theorem dX6_find_5 : decode cX6_find 5 = .ok (.aload_n 0, 1) := by decide +kernel
theorem dX6_find_6 : decode cX6_find 6 = .ok (.getfield 15, 3) := by decide +kernel
theorem dX6_find_9 : decode cX6_find 9 = .ok (.if_icmp .ge 12, 3) := by decide +kernel
theorem dX6_find_12 : decode cX6_find 12 = .ok (.iload_n 1, 1) := by decide +kernel
theorem dX6_find_13 : decode cX6_find 13 = .ok (.aload_n 0, 1) := by decide +kernel
theorem dX6_find_14 : decode cX6_find 14 = .ok (.getfield 11, 3) := by decide +kernel
theorem dX6_find_17 : decode cX6_find 17 = .ok (.arraylength, 1) := by decide +kernel
theorem dX6_find_18 : decode cX6_find 18 = .ok (.if_icmp .lt 13, 3) := by decide +kernel
theorem dX6_find_21 : decode cX6_find 21 = .ok (.new 195, 3) := by decide +kernel
theorem dX6_find_24 : decode cX6_find 24 = .ok (.dup, 1) := by decide +kernel
theorem dX6_find_25 : decode cX6_find 25 = .ok (.ldc 197, 2) := by decide +kernel
theorem dX6_find_27 : decode cX6_find 27 = .ok (.invokespecial 199, 3) := by decide +kernel
theorem dX6_find_30 : decode cX6_find 30 = .ok (.athrow, 1) := by decide +kernel
theorem dX6_find_31 : decode cX6_find 31 = .ok (.aload_n 0, 1) := by decide +kernel
theorem dX6_find_32 : decode cX6_find 32 = .ok (.getfield 11, 3) := by decide +kernel
theorem dX6_find_35 : decode cX6_find 35 = .ok (.iload_n 1, 1) := by decide +kernel
theorem dX6_find_36 : decode cX6_find 36 = .ok (.aaload, 1) := by decide +kernel
theorem dX6_find_37 : decode cX6_find 37 = .ok (.astore_n 2, 1) := by decide +kernel
theorem dX6_find_38 : decode cX6_find 38 = .ok (.aload_n 2, 1) := by decide +kernel
theorem dX6_find_39 : decode cX6_find 39 = .ok (.ifnonnull 13, 3) := by decide +kernel
theorem dX6_find_42 : decode cX6_find 42 = .ok (.new 195, 3) := by decide +kernel
theorem dX6_find_45 : decode cX6_find 45 = .ok (.dup, 1) := by decide +kernel
theorem dX6_find_46 : decode cX6_find 46 = .ok (.ldc 197, 2) := by decide +kernel
theorem dX6_find_48 : decode cX6_find 48 = .ok (.invokespecial 199, 3) := by decide +kernel
theorem dX6_find_51 : decode cX6_find 51 = .ok (.athrow, 1) := by decide +kernel
theorem dX6_find_52 : decode cX6_find 52 = .ok (.aload_n 2, 1) := by decide +kernel
theorem dX6_find_53 : decode cX6_find 53 = .ok (.areturn, 1) := by decide +kernel
theorem dX6_requireWithin_0 : decode cX6_requireWithin 0 = .ok (.iload_n 0, 1) := by decide +kernel
theorem dX6_requireWithin_1 : decode cX6_requireWithin 1 = .ok (.iload_n 1, 1) := by decide +kernel
theorem dX6_requireWithin_2 : decode cX6_requireWithin 2 = .ok (.if_icmp .lt 8, 3) := by decide +kernel
theorem dX6_requireWithin_5 : decode cX6_requireWithin 5 = .ok (.iload_n 0, 1) := by decide +kernel
theorem dX6_requireWithin_6 : decode cX6_requireWithin 6 = .ok (.iload_n 2, 1) := by decide +kernel
theorem dX6_requireWithin_7 : decode cX6_requireWithin 7 = .ok (.if_icmp .le 13, 3) := by decide +kernel
theorem dX6_requireWithin_10 : decode cX6_requireWithin 10 = .ok (.new 200, 3) := by decide +kernel
theorem dX6_requireWithin_13 : decode cX6_requireWithin 13 = .ok (.dup, 1) := by decide +kernel
theorem dX6_requireWithin_14 : decode cX6_requireWithin 14 = .ok (.ldc 202, 2) := by decide +kernel
theorem dX6_requireWithin_16 : decode cX6_requireWithin 16 = .ok (.invokespecial 204, 3) := by decide +kernel
theorem dX6_requireWithin_19 : decode cX6_requireWithin 19 = .ok (.athrow, 1) := by decide +kernel
theorem dX6_requireWithin_20 : decode cX6_requireWithin 20 = .ok (.return_, 1) := by decide +kernel
theorem dX6_requireRoom_0 : decode cX6_requireRoom 0 = .ok (.aload_n 0, 1) := by decide +kernel
theorem dX6_requireRoom_1 : decode cX6_requireRoom 1 = .ok (.invokevirtual 93, 3) := by decide +kernel
theorem dX6_requireRoom_4 : decode cX6_requireRoom 4 = .ok (.iload_n 1, 1) := by decide +kernel
theorem dX6_requireRoom_5 : decode cX6_requireRoom 5 = .ok (.if_icmp .lt 13, 3) := by decide +kernel
theorem dX6_requireRoom_8 : decode cX6_requireRoom 8 = .ok (.new 50, 3) := by decide +kernel
theorem dX6_requireRoom_11 : decode cX6_requireRoom 11 = .ok (.dup, 1) := by decide +kernel
theorem dX6_requireRoom_12 : decode cX6_requireRoom 12 = .ok (.ldc 205, 2) := by decide +kernel
theorem dX6_requireRoom_14 : decode cX6_requireRoom 14 = .ok (.invokespecial 54, 3) := by decide +kernel
theorem dX6_requireRoom_17 : decode cX6_requireRoom 17 = .ok (.athrow, 1) := by decide +kernel
theorem dX6_requireRoom_18 : decode cX6_requireRoom 18 = .ok (.return_, 1) := by decide +kernel
theorem dX6_addByHand_0 : decode cX6_addByHand 0 = .ok (.iload_n 1, 1) := by decide +kernel
theorem dX6_addByHand_1 : decode cX6_addByHand 1 = .ok (.iconst 0, 1) := by decide +kernel
theorem dX6_addByHand_2 : decode cX6_addByHand 2 = .ok (.sipush 10079, 3) := by decide +kernel
theorem dX6_addByHand_5 : decode cX6_addByHand 5 = .ok (.invokestatic 46, 3) := by decide +kernel
theorem dX6_addByHand_8 : decode cX6_addByHand 8 = .ok (.iload_n 2, 1) := by decide +kernel
theorem dX6_addByHand_9 : decode cX6_addByHand 9 = .ok (.iload_n 1, 1) := by decide +kernel
theorem dX6_addByHand_10 : decode cX6_addByHand 10 = .ok (.iconst 1, 1) := by decide +kernel
theorem dX6_addByHand_11 : decode cX6_addByHand 11 = .ok (.iadd, 1) := by decide +kernel
theorem dX6_addByHand_12 : decode cX6_addByHand 12 = .ok (.sipush 10080, 3) := by decide +kernel
theorem dX6_addByHand_15 : decode cX6_addByHand 15 = .ok (.invokestatic 46, 3) := by decide +kernel
theorem dX6_addByHand_18 : decode cX6_addByHand 18 = .ok (.aload_n 0, 1) := by decide +kernel
theorem dX6_addByHand_19 : decode cX6_addByHand 19 = .ok (.iload_n 3, 1) := by decide +kernel
theorem dX6_addByHand_20 : decode cX6_addByHand 20 = .ok (.invokestatic 71, 3) := by decide +kernel
theorem dX6_addByHand_23 : decode cX6_addByHand 23 = .ok (.aload_n 0, 1) := by decide +kernel
theorem dX6_addByHand_24 : decode cX6_addByHand 24 = .ok (.iload_n 1, 1) := by decide +kernel
theorem dX6_addByHand_25 : decode cX6_addByHand 25 = .ok (.iload_n 2, 1) := by decide +kernel
theorem dX6_addByHand_26 : decode cX6_addByHand 26 = .ok (.invokevirtual 209, 3) := by decide +kernel
theorem dX6_addByHand_29 : decode cX6_addByHand 29 = .ok (.aload_n 0, 1) := by decide +kernel
theorem dX6_addByHand_30 : decode cX6_addByHand 30 = .ok (.invokevirtual 93, 3) := by decide +kernel
theorem dX6_addByHand_33 : decode cX6_addByHand 33 = .ok (.iconst 1, 1) := by decide +kernel
theorem dX6_addByHand_34 : decode cX6_addByHand 34 = .ok (.isub, 1) := by decide +kernel
theorem dX6_addByHand_35 : decode cX6_addByHand 35 = .ok (.ireturn, 1) := by decide +kernel
theorem dX6_minutesOnDay_0 : decode cX6_minutesOnDay 0 = .ok (.iconst 0, 1) := by decide +kernel
theorem dX6_minutesOnDay_1 : decode cX6_minutesOnDay 1 = .ok (.istore_n 2, 1) := by decide +kernel
theorem dX6_minutesOnDay_2 : decode cX6_minutesOnDay 2 = .ok (.iconst 0, 1) := by decide +kernel
theorem dX6_minutesOnDay_3 : decode cX6_minutesOnDay 3 = .ok (.istore_n 3, 1) := by decide +kernel
theorem dX6_minutesOnDay_4 : decode cX6_minutesOnDay 4 = .ok (.iload_n 3, 1) := by decide +kernel
theorem dX6_minutesOnDay_5 : decode cX6_minutesOnDay 5 = .ok (.aload_n 0, 1) := by decide +kernel
theorem dX6_minutesOnDay_6 : decode cX6_minutesOnDay 6 = .ok (.invokevirtual 93, 3) := by decide +kernel
theorem dX6_minutesOnDay_9 : decode cX6_minutesOnDay 9 = .ok (.if_icmp .ge 55, 3) := by decide +kernel
theorem dX6_minutesOnDay_12 : decode cX6_minutesOnDay 12 = .ok (.aload_n 0, 1) := by decide +kernel
theorem dX6_minutesOnDay_13 : decode cX6_minutesOnDay 13 = .ok (.iload_n 3, 1) := by decide +kernel
theorem dX6_minutesOnDay_14 : decode cX6_minutesOnDay 14 = .ok (.iconst 0, 1) := by decide +kernel
theorem dX6_minutesOnDay_15 : decode cX6_minutesOnDay 15 = .ok (.invokevirtual 102, 3) := by decide +kernel
theorem dX6_minutesOnDay_18 : decode cX6_minutesOnDay 18 = .ok (.iload_n 1, 1) := by decide +kernel
theorem dX6_minutesOnDay_19 : decode cX6_minutesOnDay 19 = .ok (.sipush 1440, 3) := by decide +kernel
theorem dX6_minutesOnDay_22 : decode cX6_minutesOnDay 22 = .ok (.imul, 1) := by decide +kernel
theorem dX6_minutesOnDay_23 : decode cX6_minutesOnDay 23 = .ok (.invokestatic 213, 3) := by decide +kernel
theorem dX6_minutesOnDay_26 : decode cX6_minutesOnDay 26 = .ok (.istore 4, 2) := by decide +kernel
theorem dX6_minutesOnDay_28 : decode cX6_minutesOnDay 28 = .ok (.aload_n 0, 1) := by decide +kernel
theorem dX6_minutesOnDay_29 : decode cX6_minutesOnDay 29 = .ok (.iload_n 3, 1) := by decide +kernel
theorem dX6_minutesOnDay_30 : decode cX6_minutesOnDay 30 = .ok (.iconst 1, 1) := by decide +kernel
theorem dX6_minutesOnDay_31 : decode cX6_minutesOnDay 31 = .ok (.invokevirtual 102, 3) := by decide +kernel
theorem dX6_minutesOnDay_34 : decode cX6_minutesOnDay 34 = .ok (.iload_n 1, 1) := by decide +kernel
theorem dX6_minutesOnDay_35 : decode cX6_minutesOnDay 35 = .ok (.iconst 1, 1) := by decide +kernel
theorem dX6_minutesOnDay_36 : decode cX6_minutesOnDay 36 = .ok (.iadd, 1) := by decide +kernel
theorem dX6_minutesOnDay_37 : decode cX6_minutesOnDay 37 = .ok (.sipush 1440, 3) := by decide +kernel
theorem dX6_minutesOnDay_40 : decode cX6_minutesOnDay 40 = .ok (.imul, 1) := by decide +kernel
theorem dX6_minutesOnDay_41 : decode cX6_minutesOnDay 41 = .ok (.invokestatic 218, 3) := by decide +kernel
theorem dX6_minutesOnDay_44 : decode cX6_minutesOnDay 44 = .ok (.istore 5, 2) := by decide +kernel
theorem dX6_minutesOnDay_46 : decode cX6_minutesOnDay 46 = .ok (.iload_n 2, 1) := by decide +kernel
theorem dX6_minutesOnDay_47 : decode cX6_minutesOnDay 47 = .ok (.iload 5, 2) := by decide +kernel
theorem dX6_minutesOnDay_49 : decode cX6_minutesOnDay 49 = .ok (.iload 4, 2) := by decide +kernel
theorem dX6_minutesOnDay_51 : decode cX6_minutesOnDay 51 = .ok (.isub, 1) := by decide +kernel
theorem dX6_minutesOnDay_52 : decode cX6_minutesOnDay 52 = .ok (.iconst 0, 1) := by decide +kernel
theorem dX6_minutesOnDay_53 : decode cX6_minutesOnDay 53 = .ok (.invokestatic 213, 3) := by decide +kernel
theorem dX6_minutesOnDay_56 : decode cX6_minutesOnDay 56 = .ok (.iadd, 1) := by decide +kernel
theorem dX6_minutesOnDay_57 : decode cX6_minutesOnDay 57 = .ok (.istore_n 2, 1) := by decide +kernel
theorem dX6_minutesOnDay_58 : decode cX6_minutesOnDay 58 = .ok (.iinc 3 1, 3) := by decide +kernel
theorem dX6_minutesOnDay_61 : decode cX6_minutesOnDay 61 = .ok (.goto (-57), 3) := by decide +kernel
theorem dX6_minutesOnDay_64 : decode cX6_minutesOnDay 64 = .ok (.iload_n 2, 1) := by decide +kernel
theorem dX6_minutesOnDay_65 : decode cX6_minutesOnDay 65 = .ok (.ireturn, 1) := by decide +kernel
theorem dX6_longest_0 : decode cX6_longest 0 = .ok (.iconst 0, 1) := by decide +kernel
theorem dX6_longest_1 : decode cX6_longest 1 = .ok (.istore_n 1, 1) := by decide +kernel
theorem dX6_longest_2 : decode cX6_longest 2 = .ok (.iconst 0, 1) := by decide +kernel
theorem dX6_longest_3 : decode cX6_longest 3 = .ok (.istore_n 2, 1) := by decide +kernel
theorem dX6_longest_4 : decode cX6_longest 4 = .ok (.iload_n 2, 1) := by decide +kernel
theorem dX6_longest_5 : decode cX6_longest 5 = .ok (.aload_n 0, 1) := by decide +kernel
theorem dX6_longest_6 : decode cX6_longest 6 = .ok (.invokevirtual 93, 3) := by decide +kernel
theorem dX6_longest_9 : decode cX6_longest 9 = .ok (.if_icmp .ge 27, 3) := by decide +kernel
theorem dX6_longest_12 : decode cX6_longest 12 = .ok (.iload_n 1, 1) := by decide +kernel
theorem dX6_longest_13 : decode cX6_longest 13 = .ok (.aload_n 0, 1) := by decide +kernel
theorem dX6_longest_14 : decode cX6_longest 14 = .ok (.iload_n 2, 1) := by decide +kernel
theorem dX6_longest_15 : decode cX6_longest 15 = .ok (.iconst 1, 1) := by decide +kernel
theorem dX6_longest_16 : decode cX6_longest 16 = .ok (.invokevirtual 102, 3) := by decide +kernel
theorem dX6_longest_19 : decode cX6_longest 19 = .ok (.aload_n 0, 1) := by decide +kernel
theorem dX6_longest_20 : decode cX6_longest 20 = .ok (.iload_n 2, 1) := by decide +kernel
theorem dX6_longest_21 : decode cX6_longest 21 = .ok (.iconst 0, 1) := by decide +kernel
theorem dX6_longest_22 : decode cX6_longest 22 = .ok (.invokevirtual 102, 3) := by decide +kernel
theorem dX6_longest_25 : decode cX6_longest 25 = .ok (.isub, 1) := by decide +kernel
theorem dX6_longest_26 : decode cX6_longest 26 = .ok (.invokestatic 213, 3) := by decide +kernel
theorem dX6_longest_29 : decode cX6_longest 29 = .ok (.istore_n 1, 1) := by decide +kernel
theorem dX6_longest_30 : decode cX6_longest 30 = .ok (.iinc 2 1, 3) := by decide +kernel
theorem dX6_longest_33 : decode cX6_longest 33 = .ok (.goto (-29), 3) := by decide +kernel
theorem dX6_longest_36 : decode cX6_longest 36 = .ok (.iload_n 1, 1) := by decide +kernel
theorem dX6_longest_37 : decode cX6_longest 37 = .ok (.ireturn, 1) := by decide +kernel
theorem dJ9_max_7cf53_0 : decode cJ9_max_7cf53 0 = .ok (.iload_n 0, 1) := by decide +kernel
theorem dJ9_max_7cf53_1 : decode cJ9_max_7cf53 1 = .ok (.iload_n 1, 1) := by decide +kernel
theorem dJ9_max_7cf53_2 : decode cJ9_max_7cf53 2 = .ok (.if_icmp .lt 7, 3) := by decide +kernel
theorem dJ9_max_7cf53_5 : decode cJ9_max_7cf53 5 = .ok (.iload_n 0, 1) := by decide +kernel
theorem dJ9_max_7cf53_6 : decode cJ9_max_7cf53 6 = .ok (.goto 4, 3) := by decide +kernel
theorem dJ9_max_7cf53_9 : decode cJ9_max_7cf53 9 = .ok (.iload_n 1, 1) := by decide +kernel
theorem dJ9_max_7cf53_10 : decode cJ9_max_7cf53 10 = .ok (.ireturn, 1) := by decide +kernel
theorem dJ9_min_7cf53_0 : decode cJ9_min_7cf53 0 = .ok (.iload_n 0, 1) := by decide +kernel
theorem dJ9_min_7cf53_1 : decode cJ9_min_7cf53 1 = .ok (.iload_n 1, 1) := by decide +kernel
theorem dJ9_min_7cf53_2 : decode cJ9_min_7cf53 2 = .ok (.if_icmp .gt 7, 3) := by decide +kernel
theorem dJ9_min_7cf53_5 : decode cJ9_min_7cf53 5 = .ok (.iload_n 0, 1) := by decide +kernel
theorem dJ9_min_7cf53_6 : decode cJ9_min_7cf53 6 = .ok (.goto 4, 3) := by decide +kernel
theorem dJ9_min_7cf53_9 : decode cJ9_min_7cf53 9 = .ok (.iload_n 1, 1) := by decide +kernel
theorem dJ9_min_7cf53_10 : decode cJ9_min_7cf53 10 = .ok (.ireturn, 1) := by decide +kernel
