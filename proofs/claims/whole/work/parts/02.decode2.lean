theorem dX7_at_67 : decode cX7_at 67 = .ok (.getfield 116, 3) := by decide +kernel
theorem dX7_at_70 : decode cX7_at 70 = .ok (.ireturn, 1) := by decide +kernel
theorem dX7_at_71 : decode cX7_at 71 = .ok (.aload_n 3, 1) := by decide +kernel
theorem dX7_at_72 : decode cX7_at 72 = .ok (.getfield 119, 3) := by decide +kernel
theorem dX7_at_75 : decode cX7_at 75 = .ok (.ireturn, 1) := by decide +kernel
theorem dX7_at_76 : decode cX7_at 76 = .ok (.aload_n 3, 1) := by decide +kernel
theorem dX7_at_77 : decode cX7_at 77 = .ok (.getfield 192, 3) := by decide +kernel
theorem dX7_at_80 : decode cX7_at 80 = .ok (.ireturn, 1) := by decide +kernel
theorem dX7_at_81 : decode cX7_at 81 = .ok (.aload_n 3, 1) := by decide +kernel
theorem dX7_at_82 : decode cX7_at 82 = .ok (.getfield 97, 3) := by decide +kernel
theorem dX7_at_85 : decode cX7_at 85 = .ok (.ireturn, 1) := by decide +kernel
theorem dX7_at_86 : decode cX7_at 86 = .ok (.aload_n 0, 1) := by decide +kernel
theorem dX7_at_87 : decode cX7_at 87 = .ok (.bipush (-7), 2) := by decide +kernel
theorem dX7_at_89 : decode cX7_at 89 = .ok (.invokevirtual 104, 3) := by decide +kernel
theorem dX7_at_92 : decode cX7_at 92 = .ok (.ireturn, 1) := by decide +kernel
theorem dX7_tell_0 : decode cX7_tell 0 = .ok (.iload_n 1, 1) := by decide +kernel
theorem dX7_tell_1 : decode cX7_tell 1 = .ok (.iconst 0, 1) := by decide +kernel
theorem dX7_tell_2 : decode cX7_tell 2 = .ok (.bipush 47, 2) := by decide +kernel
theorem dX7_tell_4 : decode cX7_tell 4 = .ok (.invokestatic 100, 3) := by decide +kernel
theorem dX7_tell_7 : decode cX7_tell 7 = .ok (.ifCond .ne 10, 3) := by decide +kernel
theorem dX7_tell_10 : decode cX7_tell 10 = .ok (.aload_n 0, 1) := by decide +kernel
theorem dX7_tell_11 : decode cX7_tell 11 = .ok (.bipush (-3), 2) := by decide +kernel
theorem dX7_tell_13 : decode cX7_tell 13 = .ok (.invokevirtual 104, 3) := by decide +kernel
theorem dX7_tell_16 : decode cX7_tell 16 = .ok (.ireturn, 1) := by decide +kernel
theorem dX7_tell_17 : decode cX7_tell 17 = .ok (.iload_n 2, 1) := by decide +kernel
theorem dX7_tell_18 : decode cX7_tell 18 = .ok (.sipush (-9999), 3) := by decide +kernel
theorem dX7_tell_21 : decode cX7_tell 21 = .ok (.sipush 9999, 3) := by decide +kernel
theorem dX7_tell_24 : decode cX7_tell 24 = .ok (.invokestatic 100, 3) := by decide +kernel
theorem dX7_tell_27 : decode cX7_tell 27 = .ok (.ifCond .ne 10, 3) := by decide +kernel
theorem dX7_tell_30 : decode cX7_tell 30 = .ok (.aload_n 0, 1) := by decide +kernel
theorem dX7_tell_31 : decode cX7_tell 31 = .ok (.bipush (-7), 2) := by decide +kernel
theorem dX7_tell_33 : decode cX7_tell 33 = .ok (.invokevirtual 104, 3) := by decide +kernel
theorem dX7_tell_36 : decode cX7_tell 36 = .ok (.ireturn, 1) := by decide +kernel
theorem dX7_tell_37 : decode cX7_tell 37 = .ok (.aload_n 0, 1) := by decide +kernel
theorem dX7_tell_38 : decode cX7_tell 38 = .ok (.getfield 37, 3) := by decide +kernel
theorem dX7_tell_41 : decode cX7_tell 41 = .ok (.iload_n 1, 1) := by decide +kernel
theorem dX7_tell_42 : decode cX7_tell 42 = .ok (.iload_n 2, 1) := by decide +kernel
theorem dX7_tell_43 : decode cX7_tell 43 = .ok (.invokevirtual 267, 3) := by decide +kernel
theorem dX7_tell_46 : decode cX7_tell 46 = .ok (.iconst 1, 1) := by decide +kernel
theorem dX7_tell_47 : decode cX7_tell 47 = .ok (.ireturn, 1) := by decide +kernel
theorem dX7_tear_0 : decode cX7_tear 0 = .ok (.aload_n 0, 1) := by decide +kernel
theorem dX7_tear_1 : decode cX7_tear 1 = .ok (.getfield 37, 3) := by decide +kernel
theorem dX7_tear_4 : decode cX7_tear 4 = .ok (.getfield 134, 3) := by decide +kernel
theorem dX7_tear_7 : decode cX7_tear 7 = .ok (.ifCond .eq 7, 3) := by decide +kernel
theorem dX7_tear_10 : decode cX7_tear 10 = .ok (.iconst 1, 1) := by decide +kernel
theorem dX7_tear_11 : decode cX7_tear 11 = .ok (.goto 4, 3) := by decide +kernel
theorem dX7_tear_14 : decode cX7_tear 14 = .ok (.iconst 0, 1) := by decide +kernel
theorem dX7_tear_15 : decode cX7_tear 15 = .ok (.istore_n 1, 1) := by decide +kernel
theorem dX7_tear_16 : decode cX7_tear 16 = .ok (.aload_n 0, 1) := by decide +kernel
theorem dX7_tear_17 : decode cX7_tear 17 = .ok (.getfield 37, 3) := by decide +kernel
theorem dX7_tear_20 : decode cX7_tear 20 = .ok (.iconst 0, 1) := by decide +kernel
theorem dX7_tear_21 : decode cX7_tear 21 = .ok (.putfield 134, 3) := by decide +kernel
theorem dX7_tear_24 : decode cX7_tear 24 = .ok (.iload_n 1, 1) := by decide +kernel
theorem dX7_tear_25 : decode cX7_tear 25 = .ok (.ireturn, 1) := by decide +kernel
theorem dX7_row_0 : decode cX7_row 0 = .ok (.aload_n 0, 1) := by decide +kernel
theorem dX7_row_1 : decode cX7_row 1 = .ok (.getfield 37, 3) := by decide +kernel
theorem dX7_row_4 : decode cX7_row 4 = .ok (.getfield 134, 3) := by decide +kernel
theorem dX7_row_7 : decode cX7_row 7 = .ok (.ifCond .ne 10, 3) := by decide +kernel
theorem dX7_row_10 : decode cX7_row 10 = .ok (.aload_n 0, 1) := by decide +kernel
theorem dX7_row_11 : decode cX7_row 11 = .ok (.bipush (-2), 2) := by decide +kernel
theorem dX7_row_13 : decode cX7_row 13 = .ok (.invokevirtual 122, 3) := by decide +kernel
theorem dX7_row_16 : decode cX7_row 16 = .ok (.ireturn, 1) := by decide +kernel
theorem dX7_row_17 : decode cX7_row 17 = .ok (.iload_n 1, 1) := by decide +kernel
theorem dX7_row_18 : decode cX7_row 18 = .ok (.iconst 0, 1) := by decide +kernel
theorem dX7_row_19 : decode cX7_row 19 = .ok (.bipush 47, 2) := by decide +kernel
theorem dX7_row_21 : decode cX7_row 21 = .ok (.invokestatic 100, 3) := by decide +kernel
theorem dX7_row_24 : decode cX7_row 24 = .ok (.ifCond .ne 10, 3) := by decide +kernel
theorem dX7_row_27 : decode cX7_row 27 = .ok (.aload_n 0, 1) := by decide +kernel
theorem dX7_row_28 : decode cX7_row 28 = .ok (.bipush (-3), 2) := by decide +kernel
theorem dX7_row_30 : decode cX7_row 30 = .ok (.invokevirtual 122, 3) := by decide +kernel
theorem dX7_row_33 : decode cX7_row 33 = .ok (.ireturn, 1) := by decide +kernel
theorem dX7_row_34 : decode cX7_row 34 = .ok (.aload_n 0, 1) := by decide +kernel
theorem dX7_row_35 : decode cX7_row 35 = .ok (.getfield 37, 3) := by decide +kernel
theorem dX7_row_38 : decode cX7_row 38 = .ok (.getfield 138, 3) := by decide +kernel
theorem dX7_row_41 : decode cX7_row 41 = .ok (.iload_n 1, 1) := by decide +kernel
theorem dX7_row_42 : decode cX7_row 42 = .ok (.iaload, 1) := by decide +kernel
theorem dX7_row_43 : decode cX7_row 43 = .ok (.ireturn, 1) := by decide +kernel
theorem dX7_copy_0 : decode cX7_copy 0 = .ok (.aload_n 0, 1) := by decide +kernel
theorem dX7_copy_1 : decode cX7_copy 1 = .ok (.getfield 37, 3) := by decide +kernel
theorem dX7_copy_4 : decode cX7_copy 4 = .ok (.getfield 134, 3) := by decide +kernel
theorem dX7_copy_7 : decode cX7_copy 7 = .ok (.ifCond .ne 10, 3) := by decide +kernel
theorem dX7_copy_10 : decode cX7_copy 10 = .ok (.aload_n 0, 1) := by decide +kernel
theorem dX7_copy_11 : decode cX7_copy 11 = .ok (.bipush (-2), 2) := by decide +kernel
theorem dX7_copy_13 : decode cX7_copy 13 = .ok (.invokevirtual 104, 3) := by decide +kernel
theorem dX7_copy_16 : decode cX7_copy 16 = .ok (.ireturn, 1) := by decide +kernel
theorem dX7_copy_17 : decode cX7_copy 17 = .ok (.iload_n 3, 1) := by decide +kernel
theorem dX7_copy_18 : decode cX7_copy 18 = .ok (.ifCond .ge 10, 3) := by decide +kernel
theorem dX7_copy_21 : decode cX7_copy 21 = .ok (.aload_n 0, 1) := by decide +kernel
theorem dX7_copy_22 : decode cX7_copy 22 = .ok (.bipush (-4), 2) := by decide +kernel
theorem dX7_copy_24 : decode cX7_copy 24 = .ok (.invokevirtual 104, 3) := by decide +kernel
theorem dX7_copy_27 : decode cX7_copy 27 = .ok (.ireturn, 1) := by decide +kernel
theorem dX7_copy_28 : decode cX7_copy 28 = .ok (.iload_n 1, 1) := by decide +kernel
theorem dX7_copy_29 : decode cX7_copy 29 = .ok (.iconst 0, 1) := by decide +kernel
theorem dX7_copy_30 : decode cX7_copy 30 = .ok (.bipush 48, 2) := by decide +kernel
theorem dX7_copy_32 : decode cX7_copy 32 = .ok (.iload_n 3, 1) := by decide +kernel
theorem dX7_copy_33 : decode cX7_copy 33 = .ok (.isub, 1) := by decide +kernel
theorem dX7_copy_34 : decode cX7_copy 34 = .ok (.invokestatic 100, 3) := by decide +kernel
theorem dX7_copy_37 : decode cX7_copy 37 = .ok (.ifCond .eq 15, 3) := by decide +kernel
theorem dX7_copy_40 : decode cX7_copy 40 = .ok (.iload_n 2, 1) := by decide +kernel
theorem dX7_copy_41 : decode cX7_copy 41 = .ok (.iconst 0, 1) := by decide +kernel
theorem dX7_copy_42 : decode cX7_copy 42 = .ok (.bipush 48, 2) := by decide +kernel
theorem dX7_copy_44 : decode cX7_copy 44 = .ok (.iload_n 3, 1) := by decide +kernel
theorem dX7_copy_45 : decode cX7_copy 45 = .ok (.isub, 1) := by decide +kernel
theorem dX7_copy_46 : decode cX7_copy 46 = .ok (.invokestatic 100, 3) := by decide +kernel
theorem dX7_copy_49 : decode cX7_copy 49 = .ok (.ifCond .ne 10, 3) := by decide +kernel
theorem dX7_copy_52 : decode cX7_copy 52 = .ok (.aload_n 0, 1) := by decide +kernel
theorem dX7_copy_53 : decode cX7_copy 53 = .ok (.bipush (-6), 2) := by decide +kernel
theorem dX7_copy_55 : decode cX7_copy 55 = .ok (.invokevirtual 104, 3) := by decide +kernel
theorem dX7_copy_58 : decode cX7_copy 58 = .ok (.ireturn, 1) := by decide +kernel
theorem dX7_copy_59 : decode cX7_copy 59 = .ok (.aload_n 0, 1) := by decide +kernel
theorem dX7_copy_60 : decode cX7_copy 60 = .ok (.getfield 37, 3) := by decide +kernel
theorem dX7_copy_63 : decode cX7_copy 63 = .ok (.getfield 138, 3) := by decide +kernel
theorem dX7_copy_66 : decode cX7_copy 66 = .ok (.iload_n 1, 1) := by decide +kernel
theorem dX7_copy_67 : decode cX7_copy 67 = .ok (.aload_n 0, 1) := by decide +kernel
theorem dX7_copy_68 : decode cX7_copy 68 = .ok (.getfield 37, 3) := by decide +kernel
theorem dX7_copy_71 : decode cX7_copy 71 = .ok (.getfield 138, 3) := by decide +kernel
theorem dX7_copy_74 : decode cX7_copy 74 = .ok (.iload_n 2, 1) := by decide +kernel
theorem dX7_copy_75 : decode cX7_copy 75 = .ok (.iload_n 3, 1) := by decide +kernel
theorem dX7_copy_76 : decode cX7_copy 76 = .ok (.invokestatic 270, 3) := by decide +kernel
theorem dX7_copy_79 : decode cX7_copy 79 = .ok (.iload_n 3, 1) := by decide +kernel
theorem dX7_copy_80 : decode cX7_copy 80 = .ok (.ireturn, 1) := by decide +kernel
theorem dX7_status_0 : decode cX7_status 0 = .ok (.iload_n 1, 1) := by decide +kernel
theorem dX7_status_1 : decode cX7_status 1 = .ok (.bipush (-8), 2) := by decide +kernel
theorem dX7_status_3 : decode cX7_status 3 = .ok (.bipush (-2), 2) := by decide +kernel
theorem dX7_status_5 : decode cX7_status 5 = .ok (.invokestatic 100, 3) := by decide +kernel
theorem dX7_status_8 : decode cX7_status 8 = .ok (.ifCond .ne 10, 3) := by decide +kernel
theorem dX7_status_11 : decode cX7_status 11 = .ok (.aload_n 0, 1) := by decide +kernel
theorem dX7_status_12 : decode cX7_status 12 = .ok (.bipush (-7), 2) := by decide +kernel
theorem dX7_status_14 : decode cX7_status 14 = .ok (.invokevirtual 104, 3) := by decide +kernel
theorem dX7_status_17 : decode cX7_status 17 = .ok (.ireturn, 1) := by decide +kernel
theorem dX7_status_18 : decode cX7_status 18 = .ok (.aload_n 0, 1) := by decide +kernel
theorem dX7_status_19 : decode cX7_status 19 = .ok (.getfield 63, 3) := by decide +kernel
theorem dX7_status_22 : decode cX7_status 22 = .ok (.iload_n 1, 1) := by decide +kernel
theorem dX7_status_23 : decode cX7_status 23 = .ok (.ineg, 1) := by decide +kernel
theorem dX7_status_24 : decode cX7_status 24 = .ok (.iaload, 1) := by decide +kernel
theorem dX7_status_25 : decode cX7_status 25 = .ok (.ireturn, 1) := by decide +kernel
theorem dX7_refuse_0 : decode cX7_refuse 0 = .ok (.iload_n 1, 1) := by decide +kernel
theorem dX7_refuse_1 : decode cX7_refuse 1 = .ok (.bipush (-8), 2) := by decide +kernel
theorem dX7_refuse_3 : decode cX7_refuse 3 = .ok (.bipush (-2), 2) := by decide +kernel
theorem dX7_refuse_5 : decode cX7_refuse 5 = .ok (.invokestatic 100, 3) := by decide +kernel
theorem dX7_refuse_8 : decode cX7_refuse 8 = .ok (.ifCond .eq 14, 3) := by decide +kernel
theorem dX7_refuse_11 : decode cX7_refuse 11 = .ok (.aload_n 0, 1) := by decide +kernel
theorem dX7_refuse_12 : decode cX7_refuse 12 = .ok (.getfield 63, 3) := by decide +kernel
theorem dX7_refuse_15 : decode cX7_refuse 15 = .ok (.iload_n 1, 1) := by decide +kernel
theorem dX7_refuse_16 : decode cX7_refuse 16 = .ok (.ineg, 1) := by decide +kernel
theorem dX7_refuse_17 : decode cX7_refuse 17 = .ok (.dup2, 1) := by decide +kernel
theorem dX7_refuse_18 : decode cX7_refuse 18 = .ok (.iaload, 1) := by decide +kernel
theorem dX7_refuse_19 : decode cX7_refuse 19 = .ok (.iconst 1, 1) := by decide +kernel
theorem dX7_refuse_20 : decode cX7_refuse 20 = .ok (.iadd, 1) := by decide +kernel
theorem dX7_refuse_21 : decode cX7_refuse 21 = .ok (.iastore, 1) := by decide +kernel
theorem dX7_refuse_22 : decode cX7_refuse 22 = .ok (.iload_n 1, 1) := by decide +kernel
theorem dX7_refuse_23 : decode cX7_refuse 23 = .ok (.ireturn, 1) := by decide +kernel
theorem dX7_refuseByZero_0 : decode cX7_refuseByZero 0 = .ok (.aload_n 0, 1) := by decide +kernel
theorem dX7_refuseByZero_1 : decode cX7_refuseByZero 1 = .ok (.iload_n 1, 1) := by decide +kernel
theorem dX7_refuseByZero_2 : decode cX7_refuseByZero 2 = .ok (.invokevirtual 104, 3) := by decide +kernel
theorem dX7_refuseByZero_5 : decode cX7_refuseByZero 5 = .ok (.pop, 1) := by decide +kernel
theorem dX7_refuseByZero_6 : decode cX7_refuseByZero 6 = .ok (.iconst 0, 1) := by decide +kernel
theorem dX7_refuseByZero_7 : decode cX7_refuseByZero 7 = .ok (.ireturn, 1) := by decide +kernel
theorem dX7_isStation_0 : decode cX7_isStation 0 = .ok (.iload_n 1, 1) := by decide +kernel
theorem dX7_isStation_1 : decode cX7_isStation 1 = .ok (.ifCond .lt 15, 3) := by decide +kernel
theorem dX7_isStation_4 : decode cX7_isStation 4 = .ok (.iload_n 1, 1) := by decide +kernel
theorem dX7_isStation_5 : decode cX7_isStation 5 = .ok (.aload_n 0, 1) := by decide +kernel
theorem dX7_isStation_6 : decode cX7_isStation 6 = .ok (.getfield 76, 3) := by decide +kernel
theorem dX7_isStation_9 : decode cX7_isStation 9 = .ok (.if_icmp .ge 7, 3) := by decide +kernel
theorem dX7_isStation_12 : decode cX7_isStation 12 = .ok (.iconst 1, 1) := by decide +kernel
theorem dX7_isStation_13 : decode cX7_isStation 13 = .ok (.goto 4, 3) := by decide +kernel
theorem dX7_isStation_16 : decode cX7_isStation 16 = .ok (.iconst 0, 1) := by decide +kernel
theorem dX7_isStation_17 : decode cX7_isStation 17 = .ok (.ireturn, 1) := by decide +kernel
theorem dX7_isCar_0 : decode cX7_isCar 0 = .ok (.iload_n 1, 1) := by decide +kernel
theorem dX7_isCar_1 : decode cX7_isCar 1 = .ok (.ifCond .lt 15, 3) := by decide +kernel
theorem dX7_isCar_4 : decode cX7_isCar 4 = .ok (.iload_n 1, 1) := by decide +kernel
theorem dX7_isCar_5 : decode cX7_isCar 5 = .ok (.aload_n 0, 1) := by decide +kernel
theorem dX7_isCar_6 : decode cX7_isCar 6 = .ok (.getfield 80, 3) := by decide +kernel
theorem dX7_isCar_9 : decode cX7_isCar 9 = .ok (.if_icmp .ge 7, 3) := by decide +kernel
theorem dX7_isCar_12 : decode cX7_isCar 12 = .ok (.iconst 1, 1) := by decide +kernel
theorem dX7_isCar_13 : decode cX7_isCar 13 = .ok (.goto 4, 3) := by decide +kernel
theorem dX7_isCar_16 : decode cX7_isCar 16 = .ok (.iconst 0, 1) := by decide +kernel
theorem dX7_isCar_17 : decode cX7_isCar 17 = .ok (.ireturn, 1) := by decide +kernel
theorem dX7_within_0 : decode cX7_within 0 = .ok (.iload_n 0, 1) := by decide +kernel
theorem dX7_within_1 : decode cX7_within 1 = .ok (.iload_n 1, 1) := by decide +kernel
theorem dX7_within_2 : decode cX7_within 2 = .ok (.if_icmp .lt 12, 3) := by decide +kernel
theorem dX7_within_5 : decode cX7_within 5 = .ok (.iload_n 0, 1) := by decide +kernel
theorem dX7_within_6 : decode cX7_within 6 = .ok (.iload_n 2, 1) := by decide +kernel
theorem dX7_within_7 : decode cX7_within 7 = .ok (.if_icmp .gt 7, 3) := by decide +kernel
theorem dX7_within_10 : decode cX7_within 10 = .ok (.iconst 1, 1) := by decide +kernel
theorem dX7_within_11 : decode cX7_within 11 = .ok (.goto 4, 3) := by decide +kernel
theorem dX7_within_14 : decode cX7_within 14 = .ok (.iconst 0, 1) := by decide +kernel
theorem dX7_within_15 : decode cX7_within 15 = .ok (.ireturn, 1) := by decide +kernel
theorem dX7_isHeat_0 : decode cX7_isHeat 0 = .ok (.iload_n 0, 1) := by decide +kernel
theorem dX7_isHeat_1 : decode cX7_isHeat 1 = .ok (.sipush (-400), 3) := by decide +kernel
theorem dX7_isHeat_4 : decode cX7_isHeat 4 = .ok (.sipush 500, 3) := by decide +kernel
theorem dX7_isHeat_7 : decode cX7_isHeat 7 = .ok (.invokestatic 100, 3) := by decide +kernel
theorem dX7_isHeat_10 : decode cX7_isHeat 10 = .ok (.ireturn, 1) := by decide +kernel
theorem dX7_legBetween_0 : decode cX7_legBetween 0 = .ok (.aload_n 0, 1) := by decide +kernel
theorem dX7_legBetween_1 : decode cX7_legBetween 1 = .ok (.getfield 11, 3) := by decide +kernel
theorem dX7_legBetween_4 : decode cX7_legBetween 4 = .ok (.iload_n 1, 1) := by decide +kernel
theorem dX7_legBetween_5 : decode cX7_legBetween 5 = .ok (.iload_n 2, 1) := by decide +kernel
theorem dX7_legBetween_6 : decode cX7_legBetween 6 = .ok (.invokestatic 276, 3) := by decide +kernel
theorem dX7_legBetween_9 : decode cX7_legBetween 9 = .ok (.aaload, 1) := by decide +kernel
theorem dX7_legBetween_10 : decode cX7_legBetween 10 = .ok (.getfield 97, 3) := by decide +kernel
theorem dX7_legBetween_13 : decode cX7_legBetween 13 = .ok (.ireturn, 1) := by decide +kernel
theorem dX7_hoursLeft_0 : decode cX7_hoursLeft 0 = .ok (.aload_n 1, 1) := by decide +kernel
theorem dX7_hoursLeft_1 : decode cX7_hoursLeft 1 = .ok (.invokevirtual 174, 3) := by decide +kernel
theorem dX7_hoursLeft_4 : decode cX7_hoursLeft 4 = .ok (.ifCond .eq 10, 3) := by decide +kernel
theorem dX7_hoursLeft_7 : decode cX7_hoursLeft 7 = .ok (.aload_n 1, 1) := by decide +kernel
theorem dX7_hoursLeft_8 : decode cX7_hoursLeft 8 = .ok (.invokevirtual 282, 3) := by decide +kernel
theorem dX7_hoursLeft_11 : decode cX7_hoursLeft 11 = .ok (.goto 7, 3) := by decide +kernel
theorem dX7_hoursLeft_14 : decode cX7_hoursLeft 14 = .ok (.aload_n 1, 1) := by decide +kernel
theorem dX7_hoursLeft_15 : decode cX7_hoursLeft 15 = .ok (.getfield 179, 3) := by decide +kernel
theorem dX7_hoursLeft_18 : decode cX7_hoursLeft 18 = .ok (.istore_n 2, 1) := by decide +kernel
theorem dX7_hoursLeft_19 : decode cX7_hoursLeft 19 = .ok (.aload_n 1, 1) := by decide +kernel
theorem dX7_hoursLeft_20 : decode cX7_hoursLeft 20 = .ok (.getfield 206, 3) := by decide +kernel
theorem dX7_hoursLeft_23 : decode cX7_hoursLeft 23 = .ok (.istore_n 3, 1) := by decide +kernel
theorem dX7_hoursLeft_24 : decode cX7_hoursLeft 24 = .ok (.iload_n 2, 1) := by decide +kernel
theorem dX7_hoursLeft_25 : decode cX7_hoursLeft 25 = .ok (.aload_n 1, 1) := by decide +kernel
theorem dX7_hoursLeft_26 : decode cX7_hoursLeft 26 = .ok (.getfield 203, 3) := by decide +kernel
theorem dX7_hoursLeft_29 : decode cX7_hoursLeft 29 = .ok (.invokestatic 276, 3) := by decide +kernel
theorem dX7_hoursLeft_32 : decode cX7_hoursLeft 32 = .ok (.istore 4, 2) := by decide +kernel
theorem dX7_hoursLeft_34 : decode cX7_hoursLeft 34 = .ok (.iload 4, 2) := by decide +kernel
theorem dX7_hoursLeft_36 : decode cX7_hoursLeft 36 = .ok (.iload_n 2, 1) := by decide +kernel
theorem dX7_hoursLeft_37 : decode cX7_hoursLeft 37 = .ok (.aload_n 1, 1) := by decide +kernel
theorem dX7_hoursLeft_38 : decode cX7_hoursLeft 38 = .ok (.getfield 203, 3) := by decide +kernel
theorem dX7_hoursLeft_41 : decode cX7_hoursLeft 41 = .ok (.invokestatic 286, 3) := by decide +kernel
theorem dX7_hoursLeft_44 : decode cX7_hoursLeft 44 = .ok (.if_icmp .ge 22, 3) := by decide +kernel
theorem dX7_hoursLeft_47 : decode cX7_hoursLeft 47 = .ok (.iload_n 3, 1) := by decide +kernel
theorem dX7_hoursLeft_48 : decode cX7_hoursLeft 48 = .ok (.aload_n 0, 1) := by decide +kernel
theorem dX7_hoursLeft_49 : decode cX7_hoursLeft 49 = .ok (.getfield 11, 3) := by decide +kernel
theorem dX7_hoursLeft_52 : decode cX7_hoursLeft 52 = .ok (.iload 4, 2) := by decide +kernel
theorem dX7_hoursLeft_54 : decode cX7_hoursLeft 54 = .ok (.aaload, 1) := by decide +kernel
theorem dX7_hoursLeft_55 : decode cX7_hoursLeft 55 = .ok (.getfield 97, 3) := by decide +kernel
theorem dX7_hoursLeft_58 : decode cX7_hoursLeft 58 = .ok (.iadd, 1) := by decide +kernel
theorem dX7_hoursLeft_59 : decode cX7_hoursLeft 59 = .ok (.istore_n 3, 1) := by decide +kernel
theorem dX7_hoursLeft_60 : decode cX7_hoursLeft 60 = .ok (.iinc 4 1, 3) := by decide +kernel
theorem dX7_hoursLeft_63 : decode cX7_hoursLeft 63 = .ok (.goto (-29), 3) := by decide +kernel
theorem dX7_hoursLeft_66 : decode cX7_hoursLeft 66 = .ok (.iload_n 3, 1) := by decide +kernel
theorem dX7_hoursLeft_67 : decode cX7_hoursLeft 67 = .ok (.ireturn, 1) := by decide +kernel
theorem dX7_outsideOf_0 : decode cX7_outsideOf 0 = .ok (.aload_n 0, 1) := by decide +kernel
theorem dX7_outsideOf_1 : decode cX7_outsideOf 1 = .ok (.getfield 11, 3) := by decide +kernel
theorem dX7_outsideOf_4 : decode cX7_outsideOf 4 = .ok (.aload_n 1, 1) := by decide +kernel
theorem dX7_outsideOf_5 : decode cX7_outsideOf 5 = .ok (.getfield 179, 3) := by decide +kernel
theorem dX7_outsideOf_8 : decode cX7_outsideOf 8 = .ok (.aaload, 1) := by decide +kernel
theorem dX7_outsideOf_9 : decode cX7_outsideOf 9 = .ok (.iload_n 2, 1) := by decide +kernel
theorem dX7_outsideOf_10 : decode cX7_outsideOf 10 = .ok (.invokevirtual 141, 3) := by decide +kernel
theorem dX7_outsideOf_13 : decode cX7_outsideOf 13 = .ok (.istore_n 3, 1) := by decide +kernel
theorem dX7_outsideOf_14 : decode cX7_outsideOf 14 = .ok (.aload_n 1, 1) := by decide +kernel
theorem dX7_outsideOf_15 : decode cX7_outsideOf 15 = .ok (.invokevirtual 174, 3) := by decide +kernel
theorem dX7_outsideOf_18 : decode cX7_outsideOf 18 = .ok (.ifCond .ne 5, 3) := by decide +kernel
theorem dX7_outsideOf_21 : decode cX7_outsideOf 21 = .ok (.iload_n 3, 1) := by decide +kernel
theorem dX7_outsideOf_22 : decode cX7_outsideOf 22 = .ok (.ireturn, 1) := by decide +kernel
theorem dX7_outsideOf_23 : decode cX7_outsideOf 23 = .ok (.iload_n 3, 1) := by decide +kernel
theorem dX7_outsideOf_24 : decode cX7_outsideOf 24 = .ok (.aload_n 0, 1) := by decide +kernel
theorem dX7_outsideOf_25 : decode cX7_outsideOf 25 = .ok (.getfield 11, 3) := by decide +kernel
theorem dX7_outsideOf_28 : decode cX7_outsideOf 28 = .ok (.aload_n 1, 1) := by decide +kernel
theorem dX7_outsideOf_29 : decode cX7_outsideOf 29 = .ok (.invokevirtual 282, 3) := by decide +kernel
theorem dX7_outsideOf_32 : decode cX7_outsideOf 32 = .ok (.aaload, 1) := by decide +kernel
theorem dX7_outsideOf_33 : decode cX7_outsideOf 33 = .ok (.iload_n 2, 1) := by decide +kernel
theorem dX7_outsideOf_34 : decode cX7_outsideOf 34 = .ok (.invokevirtual 141, 3) := by decide +kernel
theorem dX7_outsideOf_37 : decode cX7_outsideOf 37 = .ok (.iadd, 1) := by decide +kernel
theorem dX7_outsideOf_38 : decode cX7_outsideOf 38 = .ok (.iconst 2, 1) := by decide +kernel
theorem dX7_outsideOf_39 : decode cX7_outsideOf 39 = .ok (.idiv, 1) := by decide +kernel
theorem dX7_outsideOf_40 : decode cX7_outsideOf 40 = .ok (.ireturn, 1) := by decide +kernel
theorem dX7_passHour_0 : decode cX7_passHour 0 = .ok (.aload_n 0, 1) := by decide +kernel
theorem dX7_passHour_1 : decode cX7_passHour 1 = .ok (.aload_n 1, 1) := by decide +kernel
theorem dX7_passHour_2 : decode cX7_passHour 2 = .ok (.iload_n 3, 1) := by decide +kernel
theorem dX7_passHour_3 : decode cX7_passHour 3 = .ok (.invokevirtual 289, 3) := by decide +kernel
theorem dX7_passHour_6 : decode cX7_passHour 6 = .ok (.istore 4, 2) := by decide +kernel
theorem dX7_passHour_8 : decode cX7_passHour 8 = .ok (.aload_n 1, 1) := by decide +kernel
theorem dX7_passHour_9 : decode cX7_passHour 9 = .ok (.invokevirtual 174, 3) := by decide +kernel
theorem dX7_passHour_12 : decode cX7_passHour 12 = .ok (.ifCond .ne 12, 3) := by decide +kernel
theorem dX7_passHour_15 : decode cX7_passHour 15 = .ok (.aload_n 0, 1) := by decide +kernel
theorem dX7_passHour_16 : decode cX7_passHour 16 = .ok (.aload_n 1, 1) := by decide +kernel
theorem dX7_passHour_17 : decode cX7_passHour 17 = .ok (.aload_n 2, 1) := by decide +kernel
theorem dX7_passHour_18 : decode cX7_passHour 18 = .ok (.iload_n 3, 1) := by decide +kernel
theorem dX7_passHour_19 : decode cX7_passHour 19 = .ok (.iload 4, 2) := by decide +kernel
theorem dX7_passHour_21 : decode cX7_passHour 21 = .ok (.invokevirtual 292, 3) := by decide +kernel
theorem dX7_passHour_24 : decode cX7_passHour 24 = .ok (.aload_n 1, 1) := by decide +kernel
theorem dX7_passHour_25 : decode cX7_passHour 25 = .ok (.invokevirtual 296, 3) := by decide +kernel
theorem dX7_passHour_28 : decode cX7_passHour 28 = .ok (.istore 5, 2) := by decide +kernel
theorem dX7_passHour_30 : decode cX7_passHour 30 = .ok (.aload_n 2, 1) := by decide +kernel
theorem dX7_passHour_31 : decode cX7_passHour 31 = .ok (.dup, 1) := by decide +kernel
theorem dX7_passHour_32 : decode cX7_passHour 32 = .ok (.getfield 264, 3) := by decide +kernel
theorem dX7_passHour_35 : decode cX7_passHour 35 = .ok (.iload 5, 2) := by decide +kernel
theorem dX7_passHour_37 : decode cX7_passHour 37 = .ok (.iadd, 1) := by decide +kernel
theorem dX7_passHour_38 : decode cX7_passHour 38 = .ok (.putfield 264, 3) := by decide +kernel
theorem dX7_passHour_41 : decode cX7_passHour 41 = .ok (.aload_n 1, 1) := by decide +kernel
theorem dX7_passHour_42 : decode cX7_passHour 42 = .ok (.aload_n 1, 1) := by decide +kernel
theorem dX7_passHour_43 : decode cX7_passHour 43 = .ok (.iload 4, 2) := by decide +kernel
theorem dX7_passHour_45 : decode cX7_passHour 45 = .ok (.iload 5, 2) := by decide +kernel
theorem dX7_passHour_47 : decode cX7_passHour 47 = .ok (.aload_n 0, 1) := by decide +kernel
theorem dX7_passHour_48 : decode cX7_passHour 48 = .ok (.getfield 57, 3) := by decide +kernel
theorem dX7_passHour_51 : decode cX7_passHour 51 = .ok (.invokevirtual 299, 3) := by decide +kernel
theorem dX7_passHour_54 : decode cX7_passHour 54 = .ok (.invokevirtual 303, 3) := by decide +kernel
theorem dX7_passHour_57 : decode cX7_passHour 57 = .ok (.aload_n 1, 1) := by decide +kernel
theorem dX7_passHour_58 : decode cX7_passHour 58 = .ok (.invokevirtual 157, 3) := by decide +kernel
theorem dX7_passHour_61 : decode cX7_passHour 61 = .ok (.ifCond .eq 15, 3) := by decide +kernel
theorem dX7_passHour_64 : decode cX7_passHour 64 = .ok (.aload_n 0, 1) := by decide +kernel
theorem dX7_passHour_65 : decode cX7_passHour 65 = .ok (.aload_n 1, 1) := by decide +kernel
theorem dX7_passHour_66 : decode cX7_passHour 66 = .ok (.invokevirtual 306, 3) := by decide +kernel
theorem dX7_passHour_69 : decode cX7_passHour 69 = .ok (.ifCond .eq 7, 3) := by decide +kernel
theorem dX7_passHour_72 : decode cX7_passHour 72 = .ok (.iconst 1, 1) := by decide +kernel
theorem dX7_passHour_73 : decode cX7_passHour 73 = .ok (.goto 4, 3) := by decide +kernel
theorem dX7_passHour_76 : decode cX7_passHour 76 = .ok (.iconst 0, 1) := by decide +kernel
theorem dX7_passHour_77 : decode cX7_passHour 77 = .ok (.ireturn, 1) := by decide +kernel
theorem dX7_obeyRules_0 : decode cX7_obeyRules 0 = .ok (.aload_n 0, 1) := by decide +kernel
theorem dX7_obeyRules_1 : decode cX7_obeyRules 1 = .ok (.getfield 60, 3) := by decide +kernel
theorem dX7_obeyRules_4 : decode cX7_obeyRules 4 = .ok (.iconst 0, 1) := by decide +kernel
theorem dX7_obeyRules_5 : decode cX7_obeyRules 5 = .ok (.aload_n 1, 1) := by decide +kernel
theorem dX7_obeyRules_6 : decode cX7_obeyRules 6 = .ok (.getfield 177, 3) := by decide +kernel
theorem dX7_obeyRules_9 : decode cX7_obeyRules 9 = .ok (.iastore, 1) := by decide +kernel
theorem dX7_obeyRules_10 : decode cX7_obeyRules 10 = .ok (.aload_n 0, 1) := by decide +kernel
theorem dX7_obeyRules_11 : decode cX7_obeyRules 11 = .ok (.getfield 60, 3) := by decide +kernel
theorem dX7_obeyRules_14 : decode cX7_obeyRules 14 = .ok (.iconst 1, 1) := by decide +kernel
theorem dX7_obeyRules_15 : decode cX7_obeyRules 15 = .ok (.aload_n 1, 1) := by decide +kernel
theorem dX7_obeyRules_16 : decode cX7_obeyRules 16 = .ok (.invokevirtual 310, 3) := by decide +kernel
theorem dX7_obeyRules_19 : decode cX7_obeyRules 19 = .ok (.iastore, 1) := by decide +kernel
theorem dX7_obeyRules_20 : decode cX7_obeyRules 20 = .ok (.aload_n 0, 1) := by decide +kernel
theorem dX7_obeyRules_21 : decode cX7_obeyRules 21 = .ok (.getfield 60, 3) := by decide +kernel
theorem dX7_obeyRules_24 : decode cX7_obeyRules 24 = .ok (.iconst 2, 1) := by decide +kernel
theorem dX7_obeyRules_25 : decode cX7_obeyRules 25 = .ok (.iload 4, 2) := by decide +kernel
theorem dX7_obeyRules_27 : decode cX7_obeyRules 27 = .ok (.iastore, 1) := by decide +kernel
theorem dX7_obeyRules_28 : decode cX7_obeyRules 28 = .ok (.aload_n 0, 1) := by decide +kernel
theorem dX7_obeyRules_29 : decode cX7_obeyRules 29 = .ok (.getfield 60, 3) := by decide +kernel
theorem dX7_obeyRules_32 : decode cX7_obeyRules 32 = .ok (.iconst 3, 1) := by decide +kernel
theorem dX7_obeyRules_33 : decode cX7_obeyRules 33 = .ok (.aload_n 1, 1) := by decide +kernel
theorem dX7_obeyRules_34 : decode cX7_obeyRules 34 = .ok (.getfield 179, 3) := by decide +kernel
theorem dX7_obeyRules_37 : decode cX7_obeyRules 37 = .ok (.iastore, 1) := by decide +kernel
theorem dX7_obeyRules_38 : decode cX7_obeyRules 38 = .ok (.aload_n 0, 1) := by decide +kernel
theorem dX7_obeyRules_39 : decode cX7_obeyRules 39 = .ok (.getfield 60, 3) := by decide +kernel
theorem dX7_obeyRules_42 : decode cX7_obeyRules 42 = .ok (.iconst 4, 1) := by decide +kernel
theorem dX7_obeyRules_43 : decode cX7_obeyRules 43 = .ok (.aload_n 1, 1) := by decide +kernel
theorem dX7_obeyRules_44 : decode cX7_obeyRules 44 = .ok (.getfield 313, 3) := by decide +kernel
theorem dX7_obeyRules_47 : decode cX7_obeyRules 47 = .ok (.iastore, 1) := by decide +kernel
theorem dX7_obeyRules_48 : decode cX7_obeyRules 48 = .ok (.aload_n 0, 1) := by decide +kernel
theorem dX7_obeyRules_49 : decode cX7_obeyRules 49 = .ok (.iconst 1, 1) := by decide +kernel
theorem dX7_obeyRules_50 : decode cX7_obeyRules 50 = .ok (.iload_n 3, 1) := by decide +kernel
theorem dX7_obeyRules_51 : decode cX7_obeyRules 51 = .ok (.invokevirtual 316, 3) := by decide +kernel
theorem dX7_obeyRules_54 : decode cX7_obeyRules 54 = .ok (.istore 5, 2) := by decide +kernel
theorem dX7_obeyRules_56 : decode cX7_obeyRules 56 = .ok (.iload 5, 2) := by decide +kernel
theorem dX7_obeyRules_58 : decode cX7_obeyRules 58 = .ok (.iconst (-1), 1) := by decide +kernel
theorem dX7_obeyRules_59 : decode cX7_obeyRules 59 = .ok (.if_icmp .eq 17, 3) := by decide +kernel
theorem dX7_obeyRules_62 : decode cX7_obeyRules 62 = .ok (.aload_n 1, 1) := by decide +kernel
theorem dX7_obeyRules_63 : decode cX7_obeyRules 63 = .ok (.iload 5, 2) := by decide +kernel
theorem dX7_obeyRules_65 : decode cX7_obeyRules 65 = .ok (.ifCond .ne 7, 3) := by decide +kernel
theorem dX7_obeyRules_68 : decode cX7_obeyRules 68 = .ok (.iconst 0, 1) := by decide +kernel
theorem dX7_obeyRules_69 : decode cX7_obeyRules 69 = .ok (.goto 4, 3) := by decide +kernel
theorem dX7_obeyRules_72 : decode cX7_obeyRules 72 = .ok (.iconst 1, 1) := by decide +kernel
theorem dX7_obeyRules_73 : decode cX7_obeyRules 73 = .ok (.putfield 186, 3) := by decide +kernel
theorem dX7_obeyRules_76 : decode cX7_obeyRules 76 = .ok (.aload_n 0, 1) := by decide +kernel
theorem dX7_obeyRules_77 : decode cX7_obeyRules 77 = .ok (.iconst 0, 1) := by decide +kernel
theorem dX7_obeyRules_78 : decode cX7_obeyRules 78 = .ok (.iload_n 3, 1) := by decide +kernel
theorem dX7_obeyRules_79 : decode cX7_obeyRules 79 = .ok (.invokevirtual 316, 3) := by decide +kernel
theorem dX7_obeyRules_82 : decode cX7_obeyRules 82 = .ok (.istore 6, 2) := by decide +kernel
theorem dX7_obeyRules_84 : decode cX7_obeyRules 84 = .ok (.iconst 0, 1) := by decide +kernel
theorem dX7_obeyRules_85 : decode cX7_obeyRules 85 = .ok (.iload 6, 2) := by decide +kernel
theorem dX7_obeyRules_87 : decode cX7_obeyRules 87 = .ok (.bipush 100, 2) := by decide +kernel
theorem dX7_obeyRules_89 : decode cX7_obeyRules 89 = .ok (.invokestatic 276, 3) := by decide +kernel
theorem dX7_obeyRules_92 : decode cX7_obeyRules 92 = .ok (.aload_n 1, 1) := by decide +kernel
theorem dX7_obeyRules_93 : decode cX7_obeyRules 93 = .ok (.getfield 177, 3) := by decide +kernel
theorem dX7_obeyRules_96 : decode cX7_obeyRules 96 = .ok (.isub, 1) := by decide +kernel
theorem dX7_obeyRules_97 : decode cX7_obeyRules 97 = .ok (.invokestatic 286, 3) := by decide +kernel
theorem dX7_obeyRules_100 : decode cX7_obeyRules 100 = .ok (.istore 7, 2) := by decide +kernel
theorem dX7_obeyRules_102 : decode cX7_obeyRules 102 = .ok (.aload_n 1, 1) := by decide +kernel
theorem dX7_obeyRules_103 : decode cX7_obeyRules 103 = .ok (.aload_n 2, 1) := by decide +kernel
theorem dX7_obeyRules_104 : decode cX7_obeyRules 104 = .ok (.aload_n 1, 1) := by decide +kernel
theorem dX7_obeyRules_105 : decode cX7_obeyRules 105 = .ok (.iload 7, 2) := by decide +kernel
theorem dX7_obeyRules_107 : decode cX7_obeyRules 107 = .ok (.aload_n 0, 1) := by decide +kernel
theorem dX7_obeyRules_108 : decode cX7_obeyRules 108 = .ok (.getfield 11, 3) := by decide +kernel
theorem dX7_obeyRules_111 : decode cX7_obeyRules 111 = .ok (.aload_n 1, 1) := by decide +kernel
theorem dX7_obeyRules_112 : decode cX7_obeyRules 112 = .ok (.getfield 179, 3) := by decide +kernel
theorem dX7_obeyRules_115 : decode cX7_obeyRules 115 = .ok (.aaload, 1) := by decide +kernel
theorem dX7_obeyRules_116 : decode cX7_obeyRules 116 = .ok (.getfield 116, 3) := by decide +kernel
theorem dX7_obeyRules_119 : decode cX7_obeyRules 119 = .ok (.invokevirtual 320, 3) := by decide +kernel
theorem dX7_obeyRules_122 : decode cX7_obeyRules 122 = .ok (.iload 7, 2) := by decide +kernel
theorem dX7_obeyRules_124 : decode cX7_obeyRules 124 = .ok (.if_icmp .ge 7, 3) := by decide +kernel
theorem dX7_obeyRules_127 : decode cX7_obeyRules 127 = .ok (.iconst 1, 1) := by decide +kernel
theorem dX7_obeyRules_128 : decode cX7_obeyRules 128 = .ok (.goto 4, 3) := by decide +kernel
theorem dX7_obeyRules_131 : decode cX7_obeyRules 131 = .ok (.iconst 0, 1) := by decide +kernel
theorem dX7_obeyRules_132 : decode cX7_obeyRules 132 = .ok (.putfield 324, 3) := by decide +kernel
theorem dX7_obeyRules_135 : decode cX7_obeyRules 135 = .ok (.return_, 1) := by decide +kernel
theorem dX7_lastThatHolds_0 : decode cX7_lastThatHolds 0 = .ok (.aload_n 0, 1) := by decide +kernel
theorem dX7_lastThatHolds_1 : decode cX7_lastThatHolds 1 = .ok (.getfield 83, 3) := by decide +kernel
theorem dX7_lastThatHolds_4 : decode cX7_lastThatHolds 4 = .ok (.iconst 1, 1) := by decide +kernel
theorem dX7_lastThatHolds_5 : decode cX7_lastThatHolds 5 = .ok (.isub, 1) := by decide +kernel
theorem dX7_lastThatHolds_6 : decode cX7_lastThatHolds 6 = .ok (.istore_n 3, 1) := by decide +kernel
theorem dX7_lastThatHolds_7 : decode cX7_lastThatHolds 7 = .ok (.iload_n 3, 1) := by decide +kernel
theorem dX7_lastThatHolds_8 : decode cX7_lastThatHolds 8 = .ok (.ifCond .lt 45, 3) := by decide +kernel
theorem dX7_lastThatHolds_11 : decode cX7_lastThatHolds 11 = .ok (.aload_n 0, 1) := by decide +kernel
theorem dX7_lastThatHolds_12 : decode cX7_lastThatHolds 12 = .ok (.getfield 23, 3) := by decide +kernel
theorem dX7_lastThatHolds_15 : decode cX7_lastThatHolds 15 = .ok (.iload_n 3, 1) := by decide +kernel
theorem dX7_lastThatHolds_16 : decode cX7_lastThatHolds 16 = .ok (.aaload, 1) := by decide +kernel
theorem dX7_lastThatHolds_17 : decode cX7_lastThatHolds 17 = .ok (.astore 4, 2) := by decide +kernel
theorem dX7_lastThatHolds_19 : decode cX7_lastThatHolds 19 = .ok (.aload 4, 2) := by decide +kernel
theorem dX7_lastThatHolds_21 : decode cX7_lastThatHolds 21 = .ok (.getfield 327, 3) := by decide +kernel
theorem dX7_lastThatHolds_24 : decode cX7_lastThatHolds 24 = .ok (.iload_n 1, 1) := by decide +kernel
theorem dX7_lastThatHolds_25 : decode cX7_lastThatHolds 25 = .ok (.if_icmp .ne 22, 3) := by decide +kernel
theorem dX7_lastThatHolds_28 : decode cX7_lastThatHolds 28 = .ok (.aload 4, 2) := by decide +kernel
theorem dX7_lastThatHolds_30 : decode cX7_lastThatHolds 30 = .ok (.aload_n 0, 1) := by decide +kernel
theorem dX7_lastThatHolds_31 : decode cX7_lastThatHolds 31 = .ok (.getfield 60, 3) := by decide +kernel
theorem dX7_lastThatHolds_34 : decode cX7_lastThatHolds 34 = .ok (.iload_n 2, 1) := by decide +kernel
theorem dX7_lastThatHolds_35 : decode cX7_lastThatHolds 35 = .ok (.invokevirtual 330, 3) := by decide +kernel
theorem dX7_lastThatHolds_38 : decode cX7_lastThatHolds 38 = .ok (.ifCond .eq 9, 3) := by decide +kernel
theorem dX7_lastThatHolds_41 : decode cX7_lastThatHolds 41 = .ok (.aload 4, 2) := by decide +kernel
theorem dX7_lastThatHolds_43 : decode cX7_lastThatHolds 43 = .ok (.getfield 334, 3) := by decide +kernel
theorem dX7_lastThatHolds_46 : decode cX7_lastThatHolds 46 = .ok (.ireturn, 1) := by decide +kernel
theorem dX7_lastThatHolds_47 : decode cX7_lastThatHolds 47 = .ok (.iinc 3 (-1), 3) := by decide +kernel
theorem dX7_lastThatHolds_50 : decode cX7_lastThatHolds 50 = .ok (.goto (-43), 3) := by decide +kernel
theorem dX7_lastThatHolds_53 : decode cX7_lastThatHolds 53 = .ok (.iconst (-1), 1) := by decide +kernel
theorem dX7_lastThatHolds_54 : decode cX7_lastThatHolds 54 = .ok (.ireturn, 1) := by decide +kernel
theorem dX7_moveOn_0 : decode cX7_moveOn 0 = .ok (.aload_n 1, 1) := by decide +kernel
theorem dX7_moveOn_1 : decode cX7_moveOn 1 = .ok (.invokevirtual 174, 3) := by decide +kernel
theorem dX7_moveOn_4 : decode cX7_moveOn 4 = .ok (.ifCond .ne 41, 3) := by decide +kernel
theorem dX7_moveOn_7 : decode cX7_moveOn 7 = .ok (.aload_n 1, 1) := by decide +kernel
theorem dX7_moveOn_8 : decode cX7_moveOn 8 = .ok (.getfield 209, 3) := by decide +kernel
theorem dX7_moveOn_11 : decode cX7_moveOn 11 = .ok (.ifCond .le 16, 3) := by decide +kernel
theorem dX7_moveOn_14 : decode cX7_moveOn 14 = .ok (.aload_n 1, 1) := by decide +kernel
theorem dX7_moveOn_15 : decode cX7_moveOn 15 = .ok (.dup, 1) := by decide +kernel
theorem dX7_moveOn_16 : decode cX7_moveOn 16 = .ok (.getfield 209, 3) := by decide +kernel
theorem dX7_moveOn_19 : decode cX7_moveOn 19 = .ok (.iconst 1, 1) := by decide +kernel
theorem dX7_moveOn_20 : decode cX7_moveOn 20 = .ok (.isub, 1) := by decide +kernel
theorem dX7_moveOn_21 : decode cX7_moveOn 21 = .ok (.putfield 209, 3) := by decide +kernel
theorem dX7_moveOn_24 : decode cX7_moveOn 24 = .ok (.goto 19, 3) := by decide +kernel
theorem dX7_moveOn_27 : decode cX7_moveOn 27 = .ok (.aload_n 1, 1) := by decide +kernel
theorem dX7_moveOn_28 : decode cX7_moveOn 28 = .ok (.aload_n 0, 1) := by decide +kernel
theorem dX7_moveOn_29 : decode cX7_moveOn 29 = .ok (.aload_n 1, 1) := by decide +kernel
theorem dX7_moveOn_30 : decode cX7_moveOn 30 = .ok (.getfield 179, 3) := by decide +kernel
theorem dX7_moveOn_33 : decode cX7_moveOn 33 = .ok (.aload_n 1, 1) := by decide +kernel
theorem dX7_moveOn_34 : decode cX7_moveOn 34 = .ok (.invokevirtual 282, 3) := by decide +kernel
theorem dX7_moveOn_37 : decode cX7_moveOn 37 = .ok (.invokevirtual 335, 3) := by decide +kernel
theorem dX7_moveOn_40 : decode cX7_moveOn 40 = .ok (.putfield 206, 3) := by decide +kernel
theorem dX7_moveOn_43 : decode cX7_moveOn 43 = .ok (.iconst 0, 1) := by decide +kernel
theorem dX7_moveOn_44 : decode cX7_moveOn 44 = .ok (.ireturn, 1) := by decide +kernel
theorem dX7_moveOn_45 : decode cX7_moveOn 45 = .ok (.aload_n 1, 1) := by decide +kernel
theorem dX7_moveOn_46 : decode cX7_moveOn 46 = .ok (.invokevirtual 282, 3) := by decide +kernel
theorem dX7_moveOn_49 : decode cX7_moveOn 49 = .ok (.istore_n 2, 1) := by decide +kernel
theorem dX7_moveOn_50 : decode cX7_moveOn 50 = .ok (.aload_n 1, 1) := by decide +kernel
theorem dX7_moveOn_51 : decode cX7_moveOn 51 = .ok (.dup, 1) := by decide +kernel
theorem dX7_moveOn_52 : decode cX7_moveOn 52 = .ok (.getfield 206, 3) := by decide +kernel
theorem dX7_moveOn_55 : decode cX7_moveOn 55 = .ok (.iconst 1, 1) := by decide +kernel
theorem dX7_moveOn_56 : decode cX7_moveOn 56 = .ok (.isub, 1) := by decide +kernel
theorem dX7_moveOn_57 : decode cX7_moveOn 57 = .ok (.putfield 206, 3) := by decide +kernel
theorem dX7_moveOn_60 : decode cX7_moveOn 60 = .ok (.aload_n 1, 1) := by decide +kernel
theorem dX7_moveOn_61 : decode cX7_moveOn 61 = .ok (.invokevirtual 174, 3) := by decide +kernel
theorem dX7_moveOn_64 : decode cX7_moveOn 64 = .ok (.ifCond .eq 5, 3) := by decide +kernel
theorem dX7_moveOn_67 : decode cX7_moveOn 67 = .ok (.iconst 0, 1) := by decide +kernel
theorem dX7_moveOn_68 : decode cX7_moveOn 68 = .ok (.ireturn, 1) := by decide +kernel
theorem dX7_moveOn_69 : decode cX7_moveOn 69 = .ok (.aload_n 1, 1) := by decide +kernel
theorem dX7_moveOn_70 : decode cX7_moveOn 70 = .ok (.iload_n 2, 1) := by decide +kernel
theorem dX7_moveOn_71 : decode cX7_moveOn 71 = .ok (.putfield 179, 3) := by decide +kernel
theorem dX7_moveOn_74 : decode cX7_moveOn 74 = .ok (.iload_n 2, 1) := by decide +kernel
theorem dX7_moveOn_75 : decode cX7_moveOn 75 = .ok (.aload_n 1, 1) := by decide +kernel
theorem dX7_moveOn_76 : decode cX7_moveOn 76 = .ok (.getfield 203, 3) := by decide +kernel
theorem dX7_moveOn_79 : decode cX7_moveOn 79 = .ok (.if_icmp .ne 15, 3) := by decide +kernel
theorem dX7_moveOn_82 : decode cX7_moveOn 82 = .ok (.aload_n 1, 1) := by decide +kernel
theorem dX7_moveOn_83 : decode cX7_moveOn 83 = .ok (.iconst (-1), 1) := by decide +kernel
theorem dX7_moveOn_84 : decode cX7_moveOn 84 = .ok (.putfield 203, 3) := by decide +kernel
theorem dX7_moveOn_87 : decode cX7_moveOn 87 = .ok (.aload_n 1, 1) := by decide +kernel
theorem dX7_moveOn_88 : decode cX7_moveOn 88 = .ok (.iconst 1, 1) := by decide +kernel
theorem dX7_moveOn_89 : decode cX7_moveOn 89 = .ok (.putfield 215, 3) := by decide +kernel
theorem dX7_moveOn_92 : decode cX7_moveOn 92 = .ok (.iconst 1, 1) := by decide +kernel
theorem dX7_moveOn_93 : decode cX7_moveOn 93 = .ok (.ireturn, 1) := by decide +kernel
theorem dX7_moveOn_94 : decode cX7_moveOn 94 = .ok (.aload_n 1, 1) := by decide +kernel
theorem dX7_moveOn_95 : decode cX7_moveOn 95 = .ok (.aload_n 0, 1) := by decide +kernel
theorem dX7_moveOn_96 : decode cX7_moveOn 96 = .ok (.getfield 11, 3) := by decide +kernel
theorem dX7_moveOn_99 : decode cX7_moveOn 99 = .ok (.iload_n 2, 1) := by decide +kernel
theorem dX7_moveOn_100 : decode cX7_moveOn 100 = .ok (.aaload, 1) := by decide +kernel
theorem dX7_moveOn_101 : decode cX7_moveOn 101 = .ok (.getfield 192, 3) := by decide +kernel
theorem dX7_moveOn_104 : decode cX7_moveOn 104 = .ok (.putfield 209, 3) := by decide +kernel
theorem dX7_moveOn_107 : decode cX7_moveOn 107 = .ok (.iconst 0, 1) := by decide +kernel
theorem dX7_moveOn_108 : decode cX7_moveOn 108 = .ok (.ireturn, 1) := by decide +kernel
theorem dX7_couldSellAt_0 : decode cX7_couldSellAt 0 = .ok (.aload_n 0, 1) := by decide +kernel
theorem dX7_couldSellAt_1 : decode cX7_couldSellAt 1 = .ok (.getfield 11, 3) := by decide +kernel
theorem dX7_couldSellAt_4 : decode cX7_couldSellAt 4 = .ok (.iload_n 2, 1) := by decide +kernel
theorem dX7_couldSellAt_5 : decode cX7_couldSellAt 5 = .ok (.aaload, 1) := by decide +kernel
theorem dX7_couldSellAt_6 : decode cX7_couldSellAt 6 = .ok (.getfield 119, 3) := by decide +kernel
theorem dX7_couldSellAt_9 : decode cX7_couldSellAt 9 = .ok (.ifCond .le 15, 3) := by decide +kernel
theorem dX7_couldSellAt_12 : decode cX7_couldSellAt 12 = .ok (.aload_n 1, 1) := by decide +kernel
theorem dX7_couldSellAt_13 : decode cX7_couldSellAt 13 = .ok (.iload_n 2, 1) := by decide +kernel
theorem dX7_couldSellAt_14 : decode cX7_couldSellAt 14 = .ok (.invokevirtual 189, 3) := by decide +kernel
theorem dX7_couldSellAt_17 : decode cX7_couldSellAt 17 = .ok (.ifCond .eq 7, 3) := by decide +kernel
theorem dX7_couldSellAt_20 : decode cX7_couldSellAt 20 = .ok (.iconst 1, 1) := by decide +kernel
theorem dX7_couldSellAt_21 : decode cX7_couldSellAt 21 = .ok (.goto 4, 3) := by decide +kernel
theorem dX7_couldSellAt_24 : decode cX7_couldSellAt 24 = .ok (.iconst 0, 1) := by decide +kernel
theorem dX7_couldSellAt_25 : decode cX7_couldSellAt 25 = .ok (.ireturn, 1) := by decide +kernel
theorem dX7_tryOut_0 : decode cX7_tryOut 0 = .ok (.aload_n 0, 1) := by decide +kernel
theorem dX7_tryOut_1 : decode cX7_tryOut 1 = .ok (.getfield 69, 3) := by decide +kernel
theorem dX7_tryOut_4 : decode cX7_tryOut 4 = .ok (.aload_n 1, 1) := by decide +kernel
theorem dX7_tryOut_5 : decode cX7_tryOut 5 = .ok (.invokevirtual 338, 3) := by decide +kernel
theorem dX7_tryOut_8 : decode cX7_tryOut 8 = .ok (.aload_n 0, 1) := by decide +kernel
theorem dX7_tryOut_9 : decode cX7_tryOut 9 = .ok (.getfield 73, 3) := by decide +kernel
theorem dX7_tryOut_12 : decode cX7_tryOut 12 = .ok (.aload_n 0, 1) := by decide +kernel
theorem dX7_tryOut_13 : decode cX7_tryOut 13 = .ok (.getfield 44, 3) := by decide +kernel
theorem dX7_tryOut_16 : decode cX7_tryOut 16 = .ok (.invokevirtual 342, 3) := by decide +kernel
theorem dX7_tryOut_19 : decode cX7_tryOut 19 = .ok (.aload_n 0, 1) := by decide +kernel
theorem dX7_tryOut_20 : decode cX7_tryOut 20 = .ok (.getfield 69, 3) := by decide +kernel
theorem dX7_tryOut_23 : decode cX7_tryOut 23 = .ok (.invokevirtual 157, 3) := by decide +kernel
theorem dX7_tryOut_26 : decode cX7_tryOut 26 = .ok (.ifCond .eq 14, 3) := by decide +kernel
theorem dX7_tryOut_29 : decode cX7_tryOut 29 = .ok (.aload_n 0, 1) := by decide +kernel
theorem dX7_tryOut_30 : decode cX7_tryOut 30 = .ok (.getfield 69, 3) := by decide +kernel
theorem dX7_tryOut_33 : decode cX7_tryOut 33 = .ok (.iload_n 2, 1) := by decide +kernel
theorem dX7_tryOut_34 : decode cX7_tryOut 34 = .ok (.putfield 203, 3) := by decide +kernel
theorem dX7_tryOut_37 : decode cX7_tryOut 37 = .ok (.goto 26, 3) := by decide +kernel
theorem dX7_tryOut_40 : decode cX7_tryOut 40 = .ok (.aload_n 0, 1) := by decide +kernel
theorem dX7_tryOut_41 : decode cX7_tryOut 41 = .ok (.getfield 69, 3) := by decide +kernel
theorem dX7_tryOut_44 : decode cX7_tryOut 44 = .ok (.iload_n 2, 1) := by decide +kernel
theorem dX7_tryOut_45 : decode cX7_tryOut 45 = .ok (.aload_n 0, 1) := by decide +kernel
theorem dX7_tryOut_46 : decode cX7_tryOut 46 = .ok (.getfield 11, 3) := by decide +kernel
theorem dX7_tryOut_49 : decode cX7_tryOut 49 = .ok (.aload_n 0, 1) := by decide +kernel
theorem dX7_tryOut_50 : decode cX7_tryOut 50 = .ok (.getfield 69, 3) := by decide +kernel
theorem dX7_tryOut_53 : decode cX7_tryOut 53 = .ok (.getfield 179, 3) := by decide +kernel
theorem dX7_tryOut_56 : decode cX7_tryOut 56 = .ok (.aaload, 1) := by decide +kernel
theorem dX7_tryOut_57 : decode cX7_tryOut 57 = .ok (.getfield 192, 3) := by decide +kernel
theorem dX7_tryOut_60 : decode cX7_tryOut 60 = .ok (.invokevirtual 195, 3) := by decide +kernel
theorem dX7_tryOut_63 : decode cX7_tryOut 63 = .ok (.iconst 0, 1) := by decide +kernel
theorem dX7_tryOut_64 : decode cX7_tryOut 64 = .ok (.istore_n 3, 1) := by decide +kernel
theorem dX7_tryOut_65 : decode cX7_tryOut 65 = .ok (.iconst 0, 1) := by decide +kernel
theorem dX7_tryOut_66 : decode cX7_tryOut 66 = .ok (.istore 4, 2) := by decide +kernel
theorem dX7_tryOut_68 : decode cX7_tryOut 68 = .ok (.iload 4, 2) := by decide +kernel
theorem dX7_tryOut_70 : decode cX7_tryOut 70 = .ok (.sipush 1000, 3) := by decide +kernel
theorem dX7_tryOut_73 : decode cX7_tryOut 73 = .ok (.if_icmp .ge 40, 3) := by decide +kernel
theorem dX7_tryOut_76 : decode cX7_tryOut 76 = .ok (.iload_n 3, 1) := by decide +kernel
theorem dX7_tryOut_77 : decode cX7_tryOut 77 = .ok (.ifCond .ne 36, 3) := by decide +kernel
theorem dX7_tryOut_80 : decode cX7_tryOut 80 = .ok (.aload_n 0, 1) := by decide +kernel
theorem dX7_tryOut_81 : decode cX7_tryOut 81 = .ok (.getfield 73, 3) := by decide +kernel
theorem dX7_tryOut_84 : decode cX7_tryOut 84 = .ok (.invokevirtual 234, 3) := by decide +kernel
theorem dX7_tryOut_87 : decode cX7_tryOut 87 = .ok (.aload_n 0, 1) := by decide +kernel
theorem dX7_tryOut_88 : decode cX7_tryOut 88 = .ok (.aload_n 0, 1) := by decide +kernel
theorem dX7_tryOut_89 : decode cX7_tryOut 89 = .ok (.getfield 69, 3) := by decide +kernel
theorem dX7_tryOut_92 : decode cX7_tryOut 92 = .ok (.aload_n 0, 1) := by decide +kernel
theorem dX7_tryOut_93 : decode cX7_tryOut 93 = .ok (.getfield 73, 3) := by decide +kernel
theorem dX7_tryOut_96 : decode cX7_tryOut 96 = .ok (.aload_n 0, 1) := by decide +kernel
theorem dX7_tryOut_97 : decode cX7_tryOut 97 = .ok (.getfield 86, 3) := by decide +kernel
theorem dX7_tryOut_100 : decode cX7_tryOut 100 = .ok (.iload 4, 2) := by decide +kernel
theorem dX7_tryOut_102 : decode cX7_tryOut 102 = .ok (.iadd, 1) := by decide +kernel
theorem dX7_tryOut_103 : decode cX7_tryOut 103 = .ok (.invokevirtual 237, 3) := by decide +kernel
theorem dX7_tryOut_106 : decode cX7_tryOut 106 = .ok (.istore_n 3, 1) := by decide +kernel
theorem dX7_tryOut_107 : decode cX7_tryOut 107 = .ok (.iinc 4 1, 3) := by decide +kernel
theorem dX7_tryOut_110 : decode cX7_tryOut 110 = .ok (.goto (-42), 3) := by decide +kernel
theorem dX7_tryOut_113 : decode cX7_tryOut 113 = .ok (.aload_n 0, 1) := by decide +kernel
theorem dX7_tryOut_114 : decode cX7_tryOut 114 = .ok (.getfield 11, 3) := by decide +kernel
theorem dX7_tryOut_117 : decode cX7_tryOut 117 = .ok (.iload_n 2, 1) := by decide +kernel
theorem dX7_tryOut_118 : decode cX7_tryOut 118 = .ok (.aaload, 1) := by decide +kernel
theorem dX7_tryOut_119 : decode cX7_tryOut 119 = .ok (.aload_n 0, 1) := by decide +kernel
theorem dX7_tryOut_120 : decode cX7_tryOut 120 = .ok (.getfield 69, 3) := by decide +kernel
theorem dX7_tryOut_123 : decode cX7_tryOut 123 = .ok (.aload_n 0, 1) := by decide +kernel
theorem dX7_tryOut_124 : decode cX7_tryOut 124 = .ok (.getfield 86, 3) := by decide +kernel
theorem dX7_tryOut_127 : decode cX7_tryOut 127 = .ok (.invokevirtual 241, 3) := by decide +kernel
theorem dX7_tryOut_130 : decode cX7_tryOut 130 = .ok (.ireturn, 1) := by decide +kernel
theorem dX8_init_0 : decode cX8_init 0 = .ok (.aload_n 0, 1) := by decide +kernel
theorem dX8_init_1 : decode cX8_init 1 = .ok (.invokespecial 1, 3) := by decide +kernel
theorem dX8_init_4 : decode cX8_init 4 = .ok (.aload_n 0, 1) := by decide +kernel
theorem dX8_init_5 : decode cX8_init 5 = .ok (.iconst 2, 1) := by decide +kernel
theorem dX8_init_6 : decode cX8_init 6 = .ok (.putfield 7, 3) := by decide +kernel
theorem dX8_init_9 : decode cX8_init 9 = .ok (.aload_n 0, 1) := by decide +kernel
theorem dX8_init_10 : decode cX8_init 10 = .ok (.bipush 8, 2) := by decide +kernel
theorem dX8_init_12 : decode cX8_init 12 = .ok (.newarray .int, 2) := by decide +kernel
theorem dX8_init_14 : decode cX8_init 14 = .ok (.putfield 13, 3) := by decide +kernel
theorem dX8_init_17 : decode cX8_init 17 = .ok (.aload_n 0, 1) := by decide +kernel
theorem dX8_init_18 : decode cX8_init 18 = .ok (.bipush 8, 2) := by decide +kernel
theorem dX8_init_20 : decode cX8_init 20 = .ok (.newarray .int, 2) := by decide +kernel
theorem dX8_init_22 : decode cX8_init 22 = .ok (.putfield 17, 3) := by decide +kernel
theorem dX8_init_25 : decode cX8_init 25 = .ok (.aload_n 0, 1) := by decide +kernel
theorem dX8_init_26 : decode cX8_init 26 = .ok (.bipush 8, 2) := by decide +kernel
theorem dX8_init_28 : decode cX8_init 28 = .ok (.newarray .int, 2) := by decide +kernel
theorem dX8_init_30 : decode cX8_init 30 = .ok (.putfield 20, 3) := by decide +kernel
theorem dX8_init_33 : decode cX8_init 33 = .ok (.aload_n 0, 1) := by decide +kernel
theorem dX8_init_34 : decode cX8_init 34 = .ok (.bipush 8, 2) := by decide +kernel
theorem dX8_init_36 : decode cX8_init 36 = .ok (.newarray .int, 2) := by decide +kernel
theorem dX8_init_38 : decode cX8_init 38 = .ok (.putfield 23, 3) := by decide +kernel
theorem dX8_init_41 : decode cX8_init 41 = .ok (.aload_n 0, 1) := by decide +kernel
theorem dX8_init_42 : decode cX8_init 42 = .ok (.bipush 8, 2) := by decide +kernel
theorem dX8_init_44 : decode cX8_init 44 = .ok (.newarray .int, 2) := by decide +kernel
theorem dX8_init_46 : decode cX8_init 46 = .ok (.putfield 26, 3) := by decide +kernel
theorem dX8_init_49 : decode cX8_init 49 = .ok (.aload_n 0, 1) := by decide +kernel
theorem dX8_init_50 : decode cX8_init 50 = .ok (.bipush 8, 2) := by decide +kernel
theorem dX8_init_52 : decode cX8_init 52 = .ok (.newarray .int, 2) := by decide +kernel
theorem dX8_init_54 : decode cX8_init 54 = .ok (.putfield 29, 3) := by decide +kernel
theorem dX8_init_57 : decode cX8_init 57 = .ok (.aload_n 0, 1) := by decide +kernel
theorem dX8_init_58 : decode cX8_init 58 = .ok (.sipush 384, 3) := by decide +kernel
theorem dX8_init_61 : decode cX8_init 61 = .ok (.newarray .int, 2) := by decide +kernel
theorem dX8_init_63 : decode cX8_init 63 = .ok (.putfield 32, 3) := by decide +kernel
theorem dX8_init_66 : decode cX8_init 66 = .ok (.aload_n 0, 1) := by decide +kernel
theorem dX8_init_67 : decode cX8_init 67 = .ok (.bipush 10, 2) := by decide +kernel
theorem dX8_init_69 : decode cX8_init 69 = .ok (.newarray .int, 2) := by decide +kernel
theorem dX8_init_71 : decode cX8_init 71 = .ok (.putfield 35, 3) := by decide +kernel
theorem dX8_init_74 : decode cX8_init 74 = .ok (.aload_n 0, 1) := by decide +kernel
theorem dX8_init_75 : decode cX8_init 75 = .ok (.bipush 11, 2) := by decide +kernel
theorem dX8_init_77 : decode cX8_init 77 = .ok (.newarray .int, 2) := by decide +kernel
theorem dX8_init_79 : decode cX8_init 79 = .ok (.putfield 38, 3) := by decide +kernel
theorem dX8_init_82 : decode cX8_init 82 = .ok (.aload_n 0, 1) := by decide +kernel
theorem dX8_init_83 : decode cX8_init 83 = .ok (.bipush 11, 2) := by decide +kernel
theorem dX8_init_85 : decode cX8_init 85 = .ok (.newarray .int, 2) := by decide +kernel
theorem dX8_init_87 : decode cX8_init 87 = .ok (.putfield 41, 3) := by decide +kernel
theorem dX8_init_90 : decode cX8_init 90 = .ok (.aload_n 0, 1) := by decide +kernel
theorem dX8_init_91 : decode cX8_init 91 = .ok (.bipush 11, 2) := by decide +kernel
theorem dX8_init_93 : decode cX8_init 93 = .ok (.newarray .int, 2) := by decide +kernel
theorem dX8_init_95 : decode cX8_init 95 = .ok (.putfield 44, 3) := by decide +kernel
theorem dX8_init_98 : decode cX8_init 98 = .ok (.aload_n 0, 1) := by decide +kernel
theorem dX8_init_99 : decode cX8_init 99 = .ok (.bipush 11, 2) := by decide +kernel
theorem dX8_init_101 : decode cX8_init 101 = .ok (.newarray .int, 2) := by decide +kernel
theorem dX8_init_103 : decode cX8_init 103 = .ok (.putfield 47, 3) := by decide +kernel
theorem dX8_init_106 : decode cX8_init 106 = .ok (.aload_n 0, 1) := by decide +kernel
theorem dX8_init_107 : decode cX8_init 107 = .ok (.bipush 11, 2) := by decide +kernel
theorem dX8_init_109 : decode cX8_init 109 = .ok (.newarray .int, 2) := by decide +kernel
theorem dX8_init_111 : decode cX8_init 111 = .ok (.putfield 50, 3) := by decide +kernel
theorem dX8_init_114 : decode cX8_init 114 = .ok (.aload_n 0, 1) := by decide +kernel
theorem dX8_init_115 : decode cX8_init 115 = .ok (.bipush 11, 2) := by decide +kernel
theorem dX8_init_117 : decode cX8_init 117 = .ok (.newarray .int, 2) := by decide +kernel
theorem dX8_init_119 : decode cX8_init 119 = .ok (.putfield 53, 3) := by decide +kernel
theorem dX8_init_122 : decode cX8_init 122 = .ok (.aload_n 0, 1) := by decide +kernel
theorem dX8_init_123 : decode cX8_init 123 = .ok (.bipush 11, 2) := by decide +kernel
theorem dX8_init_125 : decode cX8_init 125 = .ok (.newarray .int, 2) := by decide +kernel
theorem dX8_init_127 : decode cX8_init 127 = .ok (.putfield 56, 3) := by decide +kernel
theorem dX8_init_130 : decode cX8_init 130 = .ok (.aload_n 0, 1) := by decide +kernel
theorem dX8_init_131 : decode cX8_init 131 = .ok (.bipush 11, 2) := by decide +kernel
theorem dX8_init_133 : decode cX8_init 133 = .ok (.newarray .int, 2) := by decide +kernel
theorem dX8_init_135 : decode cX8_init 135 = .ok (.putfield 59, 3) := by decide +kernel
theorem dX8_init_138 : decode cX8_init 138 = .ok (.aload_n 0, 1) := by decide +kernel
theorem dX8_init_139 : decode cX8_init 139 = .ok (.bipush 11, 2) := by decide +kernel
theorem dX8_init_141 : decode cX8_init 141 = .ok (.newarray .int, 2) := by decide +kernel
theorem dX8_init_143 : decode cX8_init 143 = .ok (.putfield 62, 3) := by decide +kernel
theorem dX8_init_146 : decode cX8_init 146 = .ok (.aload_n 0, 1) := by decide +kernel
theorem dX8_init_147 : decode cX8_init 147 = .ok (.bipush 11, 2) := by decide +kernel
theorem dX8_init_149 : decode cX8_init 149 = .ok (.newarray .int, 2) := by decide +kernel
theorem dX8_init_151 : decode cX8_init 151 = .ok (.putfield 65, 3) := by decide +kernel
theorem dX8_init_154 : decode cX8_init 154 = .ok (.aload_n 0, 1) := by decide +kernel
theorem dX8_init_155 : decode cX8_init 155 = .ok (.bipush 11, 2) := by decide +kernel
theorem dX8_init_157 : decode cX8_init 157 = .ok (.newarray .boolean, 2) := by decide +kernel
theorem dX8_init_159 : decode cX8_init 159 = .ok (.putfield 68, 3) := by decide +kernel
theorem dX8_init_162 : decode cX8_init 162 = .ok (.aload_n 0, 1) := by decide +kernel
theorem dX8_init_163 : decode cX8_init 163 = .ok (.bipush 11, 2) := by decide +kernel
theorem dX8_init_165 : decode cX8_init 165 = .ok (.newarray .boolean, 2) := by decide +kernel
theorem dX8_init_167 : decode cX8_init 167 = .ok (.putfield 72, 3) := by decide +kernel
theorem dX8_init_170 : decode cX8_init 170 = .ok (.aload_n 0, 1) := by decide +kernel
theorem dX8_init_171 : decode cX8_init 171 = .ok (.bipush 33, 2) := by decide +kernel
theorem dX8_init_173 : decode cX8_init 173 = .ok (.newarray .int, 2) := by decide +kernel
theorem dX8_init_175 : decode cX8_init 175 = .ok (.putfield 75, 3) := by decide +kernel
theorem dX8_init_178 : decode cX8_init 178 = .ok (.aload_n 0, 1) := by decide +kernel
theorem dX8_init_179 : decode cX8_init 179 = .ok (.bipush 44, 2) := by decide +kernel
theorem dX8_init_181 : decode cX8_init 181 = .ok (.newarray .int, 2) := by decide +kernel
theorem dX8_init_183 : decode cX8_init 183 = .ok (.putfield 78, 3) := by decide +kernel
theorem dX8_init_186 : decode cX8_init 186 = .ok (.aload_n 0, 1) := by decide +kernel
theorem dX8_init_187 : decode cX8_init 187 = .ok (.bipush 44, 2) := by decide +kernel
theorem dX8_init_189 : decode cX8_init 189 = .ok (.newarray .int, 2) := by decide +kernel
theorem dX8_init_191 : decode cX8_init 191 = .ok (.putfield 81, 3) := by decide +kernel
theorem dX8_init_194 : decode cX8_init 194 = .ok (.aload_n 0, 1) := by decide +kernel
theorem dX8_init_195 : decode cX8_init 195 = .ok (.bipush 44, 2) := by decide +kernel
theorem dX8_init_197 : decode cX8_init 197 = .ok (.newarray .int, 2) := by decide +kernel
theorem dX8_init_199 : decode cX8_init 199 = .ok (.putfield 84, 3) := by decide +kernel
theorem dX8_init_202 : decode cX8_init 202 = .ok (.aload_n 0, 1) := by decide +kernel
theorem dX8_init_203 : decode cX8_init 203 = .ok (.bipush 44, 2) := by decide +kernel
theorem dX8_init_205 : decode cX8_init 205 = .ok (.newarray .int, 2) := by decide +kernel
theorem dX8_init_207 : decode cX8_init 207 = .ok (.putfield 87, 3) := by decide +kernel
theorem dX8_init_210 : decode cX8_init 210 = .ok (.aload_n 0, 1) := by decide +kernel
theorem dX8_init_211 : decode cX8_init 211 = .ok (.bipush 44, 2) := by decide +kernel
theorem dX8_init_213 : decode cX8_init 213 = .ok (.newarray .int, 2) := by decide +kernel
theorem dX8_init_215 : decode cX8_init 215 = .ok (.putfield 90, 3) := by decide +kernel
theorem dX8_init_218 : decode cX8_init 218 = .ok (.aload_n 0, 1) := by decide +kernel
theorem dX8_init_219 : decode cX8_init 219 = .ok (.bipush 44, 2) := by decide +kernel
theorem dX8_init_221 : decode cX8_init 221 = .ok (.newarray .int, 2) := by decide +kernel
theorem dX8_init_223 : decode cX8_init 223 = .ok (.putfield 93, 3) := by decide +kernel
theorem dX8_init_226 : decode cX8_init 226 = .ok (.aload_n 0, 1) := by decide +kernel
theorem dX8_init_227 : decode cX8_init 227 = .ok (.sipush 256, 3) := by decide +kernel
theorem dX8_init_230 : decode cX8_init 230 = .ok (.newarray .int, 2) := by decide +kernel
theorem dX8_init_232 : decode cX8_init 232 = .ok (.putfield 96, 3) := by decide +kernel
theorem dX8_init_235 : decode cX8_init 235 = .ok (.aload_n 0, 1) := by decide +kernel
theorem dX8_init_236 : decode cX8_init 236 = .ok (.sipush 256, 3) := by decide +kernel
theorem dX8_init_239 : decode cX8_init 239 = .ok (.newarray .int, 2) := by decide +kernel
theorem dX8_init_241 : decode cX8_init 241 = .ok (.putfield 99, 3) := by decide +kernel
theorem dX8_init_244 : decode cX8_init 244 = .ok (.aload_n 0, 1) := by decide +kernel
theorem dX8_init_245 : decode cX8_init 245 = .ok (.bipush 10, 2) := by decide +kernel
theorem dX8_init_247 : decode cX8_init 247 = .ok (.newarray .int, 2) := by decide +kernel
theorem dX8_init_249 : decode cX8_init 249 = .ok (.putfield 102, 3) := by decide +kernel
theorem dX8_init_252 : decode cX8_init 252 = .ok (.aload_n 0, 1) := by decide +kernel
theorem dX8_init_253 : decode cX8_init 253 = .ok (.bipush 10, 2) := by decide +kernel
theorem dX8_init_255 : decode cX8_init 255 = .ok (.newarray .int, 2) := by decide +kernel
theorem dX8_init_257 : decode cX8_init 257 = .ok (.putfield 105, 3) := by decide +kernel
theorem dX8_init_260 : decode cX8_init 260 = .ok (.aload_n 0, 1) := by decide +kernel
theorem dX8_init_261 : decode cX8_init 261 = .ok (.bipush 10, 2) := by decide +kernel
theorem dX8_init_263 : decode cX8_init 263 = .ok (.newarray .int, 2) := by decide +kernel
theorem dX8_init_265 : decode cX8_init 265 = .ok (.putfield 108, 3) := by decide +kernel
theorem dX8_init_268 : decode cX8_init 268 = .ok (.aload_n 0, 1) := by decide +kernel
theorem dX8_init_269 : decode cX8_init 269 = .ok (.bipush 10, 2) := by decide +kernel
theorem dX8_init_271 : decode cX8_init 271 = .ok (.newarray .int, 2) := by decide +kernel
theorem dX8_init_273 : decode cX8_init 273 = .ok (.putfield 111, 3) := by decide +kernel
theorem dX8_init_276 : decode cX8_init 276 = .ok (.aload_n 0, 1) := by decide +kernel
theorem dX8_init_277 : decode cX8_init 277 = .ok (.bipush 10, 2) := by decide +kernel
theorem dX8_init_279 : decode cX8_init 279 = .ok (.newarray .int, 2) := by decide +kernel
theorem dX8_init_281 : decode cX8_init 281 = .ok (.putfield 114, 3) := by decide +kernel
theorem dX8_init_284 : decode cX8_init 284 = .ok (.aload_n 0, 1) := by decide +kernel
theorem dX8_init_285 : decode cX8_init 285 = .ok (.bipush 30, 2) := by decide +kernel
theorem dX8_init_287 : decode cX8_init 287 = .ok (.newarray .int, 2) := by decide +kernel
theorem dX8_init_289 : decode cX8_init 289 = .ok (.putfield 117, 3) := by decide +kernel
theorem dX8_init_292 : decode cX8_init 292 = .ok (.aload_n 0, 1) := by decide +kernel
theorem dX8_init_293 : decode cX8_init 293 = .ok (.bipush 30, 2) := by decide +kernel
theorem dX8_init_295 : decode cX8_init 295 = .ok (.newarray .int, 2) := by decide +kernel
theorem dX8_init_297 : decode cX8_init 297 = .ok (.putfield 120, 3) := by decide +kernel
theorem dX8_init_300 : decode cX8_init 300 = .ok (.aload_n 0, 1) := by decide +kernel
theorem dX8_init_301 : decode cX8_init 301 = .ok (.bipush 30, 2) := by decide +kernel
theorem dX8_init_303 : decode cX8_init 303 = .ok (.newarray .int, 2) := by decide +kernel
theorem dX8_init_305 : decode cX8_init 305 = .ok (.putfield 123, 3) := by decide +kernel
theorem dX8_init_308 : decode cX8_init 308 = .ok (.aload_n 0, 1) := by decide +kernel
theorem dX8_init_309 : decode cX8_init 309 = .ok (.bipush 80, 2) := by decide +kernel
theorem dX8_init_311 : decode cX8_init 311 = .ok (.newarray .int, 2) := by decide +kernel
theorem dX8_init_313 : decode cX8_init 313 = .ok (.putfield 126, 3) := by decide +kernel
theorem dX8_init_316 : decode cX8_init 316 = .ok (.aload_n 0, 1) := by decide +kernel
theorem dX8_init_317 : decode cX8_init 317 = .ok (.bipush 48, 2) := by decide +kernel
theorem dX8_init_319 : decode cX8_init 319 = .ok (.newarray .int, 2) := by decide +kernel
theorem dX8_init_321 : decode cX8_init 321 = .ok (.putfield 129, 3) := by decide +kernel
theorem dX8_init_324 : decode cX8_init 324 = .ok (.aload_n 0, 1) := by decide +kernel
theorem dX8_init_325 : decode cX8_init 325 = .ok (.bipush 48, 2) := by decide +kernel
theorem dX8_init_327 : decode cX8_init 327 = .ok (.newarray .int, 2) := by decide +kernel
theorem dX8_init_329 : decode cX8_init 329 = .ok (.putfield 132, 3) := by decide +kernel
theorem dX8_init_332 : decode cX8_init 332 = .ok (.aload_n 0, 1) := by decide +kernel
theorem dX8_init_333 : decode cX8_init 333 = .ok (.bipush 9, 2) := by decide +kernel
theorem dX8_init_335 : decode cX8_init 335 = .ok (.newarray .int, 2) := by decide +kernel
theorem dX8_init_337 : decode cX8_init 337 = .ok (.putfield 135, 3) := by decide +kernel
theorem dX8_init_340 : decode cX8_init 340 = .ok (.aload_n 0, 1) := by decide +kernel
theorem dX8_init_341 : decode cX8_init 341 = .ok (.bipush 8, 2) := by decide +kernel
theorem dX8_init_343 : decode cX8_init 343 = .ok (.newarray .int, 2) := by decide +kernel
theorem dX8_init_345 : decode cX8_init 345 = .ok (.putfield 138, 3) := by decide +kernel
theorem dX8_init_348 : decode cX8_init 348 = .ok (.iconst 0, 1) := by decide +kernel
theorem dX8_init_349 : decode cX8_init 349 = .ok (.istore_n 1, 1) := by decide +kernel
theorem dX8_init_350 : decode cX8_init 350 = .ok (.iload_n 1, 1) := by decide +kernel
theorem dX8_init_351 : decode cX8_init 351 = .ok (.bipush 8, 2) := by decide +kernel
theorem dX8_init_353 : decode cX8_init 353 = .ok (.if_icmp .ge 14, 3) := by decide +kernel
theorem dX8_init_356 : decode cX8_init 356 = .ok (.aload_n 0, 1) := by decide +kernel
theorem dX8_init_357 : decode cX8_init 357 = .ok (.iload_n 1, 1) := by decide +kernel
theorem dX8_init_358 : decode cX8_init 358 = .ok (.invokevirtual 141, 3) := by decide +kernel
theorem dX8_init_361 : decode cX8_init 361 = .ok (.iinc 1 1, 3) := by decide +kernel
theorem dX8_init_364 : decode cX8_init 364 = .ok (.goto (-14), 3) := by decide +kernel
theorem dX8_init_367 : decode cX8_init 367 = .ok (.aload_n 0, 1) := by decide +kernel
theorem dX8_init_368 : decode cX8_init 368 = .ok (.getfield 13, 3) := by decide +kernel
theorem dX8_init_371 : decode cX8_init 371 = .ok (.iconst 0, 1) := by decide +kernel
theorem dX8_init_372 : decode cX8_init 372 = .ok (.iconst 4, 1) := by decide +kernel
theorem dX8_init_373 : decode cX8_init 373 = .ok (.iastore, 1) := by decide +kernel
theorem dX8_init_374 : decode cX8_init 374 = .ok (.bipush 10, 2) := by decide +kernel
theorem dX8_init_376 : decode cX8_init 376 = .ok (.newarray .int, 2) := by decide +kernel
theorem dX8_init_378 : decode cX8_init 378 = .ok (.dup, 1) := by decide +kernel
theorem dX8_init_379 : decode cX8_init 379 = .ok (.iconst 0, 1) := by decide +kernel
theorem dX8_init_380 : decode cX8_init 380 = .ok (.iconst 1, 1) := by decide +kernel
theorem dX8_init_381 : decode cX8_init 381 = .ok (.iastore, 1) := by decide +kernel
theorem dX8_init_382 : decode cX8_init 382 = .ok (.dup, 1) := by decide +kernel
theorem dX8_init_383 : decode cX8_init 383 = .ok (.iconst 1, 1) := by decide +kernel
theorem dX8_init_384 : decode cX8_init 384 = .ok (.iconst 2, 1) := by decide +kernel
theorem dX8_init_385 : decode cX8_init 385 = .ok (.iastore, 1) := by decide +kernel
theorem dX8_init_386 : decode cX8_init 386 = .ok (.dup, 1) := by decide +kernel
theorem dX8_init_387 : decode cX8_init 387 = .ok (.iconst 2, 1) := by decide +kernel
theorem dX8_init_388 : decode cX8_init 388 = .ok (.iconst 3, 1) := by decide +kernel
theorem dX8_init_389 : decode cX8_init 389 = .ok (.iastore, 1) := by decide +kernel
theorem dX8_init_390 : decode cX8_init 390 = .ok (.dup, 1) := by decide +kernel
theorem dX8_init_391 : decode cX8_init 391 = .ok (.iconst 3, 1) := by decide +kernel
theorem dX8_init_392 : decode cX8_init 392 = .ok (.iconst 5, 1) := by decide +kernel
theorem dX8_init_393 : decode cX8_init 393 = .ok (.iastore, 1) := by decide +kernel
theorem dX8_init_394 : decode cX8_init 394 = .ok (.dup, 1) := by decide +kernel
theorem dX8_init_395 : decode cX8_init 395 = .ok (.iconst 4, 1) := by decide +kernel
theorem dX8_init_396 : decode cX8_init 396 = .ok (.bipush 8, 2) := by decide +kernel
theorem dX8_init_398 : decode cX8_init 398 = .ok (.iastore, 1) := by decide +kernel
theorem dX8_init_399 : decode cX8_init 399 = .ok (.dup, 1) := by decide +kernel
theorem dX8_init_400 : decode cX8_init 400 = .ok (.iconst 5, 1) := by decide +kernel
theorem dX8_init_401 : decode cX8_init 401 = .ok (.bipush 12, 2) := by decide +kernel
theorem dX8_init_403 : decode cX8_init 403 = .ok (.iastore, 1) := by decide +kernel
theorem dX8_init_404 : decode cX8_init 404 = .ok (.dup, 1) := by decide +kernel
theorem dX8_init_405 : decode cX8_init 405 = .ok (.bipush 6, 2) := by decide +kernel
theorem dX8_init_407 : decode cX8_init 407 = .ok (.bipush 18, 2) := by decide +kernel
theorem dX8_init_409 : decode cX8_init 409 = .ok (.iastore, 1) := by decide +kernel
theorem dX8_init_410 : decode cX8_init 410 = .ok (.dup, 1) := by decide +kernel
theorem dX8_init_411 : decode cX8_init 411 = .ok (.bipush 7, 2) := by decide +kernel
theorem dX8_init_413 : decode cX8_init 413 = .ok (.bipush 25, 2) := by decide +kernel
theorem dX8_init_415 : decode cX8_init 415 = .ok (.iastore, 1) := by decide +kernel
theorem dX8_init_416 : decode cX8_init 416 = .ok (.dup, 1) := by decide +kernel
theorem dX8_init_417 : decode cX8_init 417 = .ok (.bipush 8, 2) := by decide +kernel
theorem dX8_init_419 : decode cX8_init 419 = .ok (.bipush 35, 2) := by decide +kernel
theorem dX8_init_421 : decode cX8_init 421 = .ok (.iastore, 1) := by decide +kernel
theorem dX8_init_422 : decode cX8_init 422 = .ok (.dup, 1) := by decide +kernel
theorem dX8_init_423 : decode cX8_init 423 = .ok (.bipush 9, 2) := by decide +kernel
theorem dX8_init_425 : decode cX8_init 425 = .ok (.bipush 50, 2) := by decide +kernel
theorem dX8_init_427 : decode cX8_init 427 = .ok (.iastore, 1) := by decide +kernel
theorem dX8_init_428 : decode cX8_init 428 = .ok (.astore_n 1, 1) := by decide +kernel
theorem dX8_init_429 : decode cX8_init 429 = .ok (.iconst 0, 1) := by decide +kernel
theorem dX8_init_430 : decode cX8_init 430 = .ok (.istore_n 2, 1) := by decide +kernel
theorem dX8_init_431 : decode cX8_init 431 = .ok (.iload_n 2, 1) := by decide +kernel
theorem dX8_init_432 : decode cX8_init 432 = .ok (.bipush 10, 2) := by decide +kernel
theorem dX8_init_434 : decode cX8_init 434 = .ok (.if_icmp .ge 18, 3) := by decide +kernel
theorem dX8_init_437 : decode cX8_init 437 = .ok (.aload_n 0, 1) := by decide +kernel
theorem dX8_init_438 : decode cX8_init 438 = .ok (.getfield 35, 3) := by decide +kernel
theorem dX8_init_441 : decode cX8_init 441 = .ok (.iload_n 2, 1) := by decide +kernel
theorem dX8_init_442 : decode cX8_init 442 = .ok (.aload_n 1, 1) := by decide +kernel
theorem dX8_init_443 : decode cX8_init 443 = .ok (.iload_n 2, 1) := by decide +kernel
theorem dX8_init_444 : decode cX8_init 444 = .ok (.iaload, 1) := by decide +kernel
theorem dX8_init_445 : decode cX8_init 445 = .ok (.iastore, 1) := by decide +kernel
theorem dX8_init_446 : decode cX8_init 446 = .ok (.iinc 2 1, 3) := by decide +kernel
theorem dX8_init_449 : decode cX8_init 449 = .ok (.goto (-18), 3) := by decide +kernel
theorem dX8_init_452 : decode cX8_init 452 = .ok (.return_, 1) := by decide +kernel
theorem dX8_fresh_0 : decode cX8_fresh 0 = .ok (.aload_n 0, 1) := by decide +kernel
theorem dX8_fresh_1 : decode cX8_fresh 1 = .ok (.getfield 20, 3) := by decide +kernel
theorem dX8_fresh_4 : decode cX8_fresh 4 = .ok (.iload_n 1, 1) := by decide +kernel
theorem dX8_fresh_5 : decode cX8_fresh 5 = .ok (.bipush 100, 2) := by decide +kernel
theorem dX8_fresh_7 : decode cX8_fresh 7 = .ok (.iastore, 1) := by decide +kernel
theorem dX8_fresh_8 : decode cX8_fresh 8 = .ok (.iconst 0, 1) := by decide +kernel
theorem dX8_fresh_9 : decode cX8_fresh 9 = .ok (.istore_n 2, 1) := by decide +kernel
theorem dX8_fresh_10 : decode cX8_fresh 10 = .ok (.iload_n 2, 1) := by decide +kernel
theorem dX8_fresh_11 : decode cX8_fresh 11 = .ok (.bipush 48, 2) := by decide +kernel
theorem dX8_fresh_13 : decode cX8_fresh 13 = .ok (.if_icmp .ge 23, 3) := by decide +kernel
theorem dX8_fresh_16 : decode cX8_fresh 16 = .ok (.aload_n 0, 1) := by decide +kernel
theorem dX8_fresh_17 : decode cX8_fresh 17 = .ok (.getfield 32, 3) := by decide +kernel
theorem dX8_fresh_20 : decode cX8_fresh 20 = .ok (.bipush 48, 2) := by decide +kernel
theorem dX8_fresh_22 : decode cX8_fresh 22 = .ok (.iload_n 1, 1) := by decide +kernel
theorem dX8_fresh_23 : decode cX8_fresh 23 = .ok (.imul, 1) := by decide +kernel
theorem dX8_fresh_24 : decode cX8_fresh 24 = .ok (.iload_n 2, 1) := by decide +kernel
theorem dX8_fresh_25 : decode cX8_fresh 25 = .ok (.iadd, 1) := by decide +kernel
theorem dX8_fresh_26 : decode cX8_fresh 26 = .ok (.sipush (-9999), 3) := by decide +kernel
theorem dX8_fresh_29 : decode cX8_fresh 29 = .ok (.iastore, 1) := by decide +kernel
theorem dX8_fresh_30 : decode cX8_fresh 30 = .ok (.iinc 2 1, 3) := by decide +kernel
theorem dX8_fresh_33 : decode cX8_fresh 33 = .ok (.goto (-23), 3) := by decide +kernel
theorem dX8_fresh_36 : decode cX8_fresh 36 = .ok (.return_, 1) := by decide +kernel
theorem dX8_refuse_0 : decode cX8_refuse 0 = .ok (.aload_n 0, 1) := by decide +kernel
theorem dX8_refuse_1 : decode cX8_refuse 1 = .ok (.getfield 135, 3) := by decide +kernel
theorem dX8_refuse_4 : decode cX8_refuse 4 = .ok (.iload_n 1, 1) := by decide +kernel
theorem dX8_refuse_5 : decode cX8_refuse 5 = .ok (.ineg, 1) := by decide +kernel
theorem dX8_refuse_6 : decode cX8_refuse 6 = .ok (.dup2, 1) := by decide +kernel
theorem dX8_refuse_7 : decode cX8_refuse 7 = .ok (.iaload, 1) := by decide +kernel
theorem dX8_refuse_8 : decode cX8_refuse 8 = .ok (.iconst 1, 1) := by decide +kernel
theorem dX8_refuse_9 : decode cX8_refuse 9 = .ok (.iadd, 1) := by decide +kernel
theorem dX8_refuse_10 : decode cX8_refuse 10 = .ok (.iastore, 1) := by decide +kernel
theorem dX8_refuse_11 : decode cX8_refuse 11 = .ok (.iload_n 1, 1) := by decide +kernel
theorem dX8_refuse_12 : decode cX8_refuse 12 = .ok (.ireturn, 1) := by decide +kernel
theorem dX8_zero_0 : decode cX8_zero 0 = .ok (.aload_n 0, 1) := by decide +kernel
theorem dX8_zero_1 : decode cX8_zero 1 = .ok (.getfield 135, 3) := by decide +kernel
theorem dX8_zero_4 : decode cX8_zero 4 = .ok (.iload_n 1, 1) := by decide +kernel
theorem dX8_zero_5 : decode cX8_zero 5 = .ok (.ineg, 1) := by decide +kernel
theorem dX8_zero_6 : decode cX8_zero 6 = .ok (.dup2, 1) := by decide +kernel
theorem dX8_zero_7 : decode cX8_zero 7 = .ok (.iaload, 1) := by decide +kernel
theorem dX8_zero_8 : decode cX8_zero 8 = .ok (.iconst 1, 1) := by decide +kernel
theorem dX8_zero_9 : decode cX8_zero 9 = .ok (.iadd, 1) := by decide +kernel
theorem dX8_zero_10 : decode cX8_zero 10 = .ok (.iastore, 1) := by decide +kernel
theorem dX8_zero_11 : decode cX8_zero 11 = .ok (.iconst 0, 1) := by decide +kernel
theorem dX8_zero_12 : decode cX8_zero 12 = .ok (.ireturn, 1) := by decide +kernel
theorem dX8_isStation_0 : decode cX8_isStation 0 = .ok (.iload_n 1, 1) := by decide +kernel
theorem dX8_isStation_1 : decode cX8_isStation 1 = .ok (.ifCond .lt 15, 3) := by decide +kernel
theorem dX8_isStation_4 : decode cX8_isStation 4 = .ok (.iload_n 1, 1) := by decide +kernel
theorem dX8_isStation_5 : decode cX8_isStation 5 = .ok (.aload_n 0, 1) := by decide +kernel
theorem dX8_isStation_6 : decode cX8_isStation 6 = .ok (.getfield 7, 3) := by decide +kernel
theorem dX8_isStation_9 : decode cX8_isStation 9 = .ok (.if_icmp .ge 7, 3) := by decide +kernel
theorem dX8_isStation_12 : decode cX8_isStation 12 = .ok (.iconst 1, 1) := by decide +kernel
theorem dX8_isStation_13 : decode cX8_isStation 13 = .ok (.goto 4, 3) := by decide +kernel
theorem dX8_isStation_16 : decode cX8_isStation 16 = .ok (.iconst 0, 1) := by decide +kernel
theorem dX8_isStation_17 : decode cX8_isStation 17 = .ok (.ireturn, 1) := by decide +kernel
theorem dX8_isCar_0 : decode cX8_isCar 0 = .ok (.iload_n 1, 1) := by decide +kernel
theorem dX8_isCar_1 : decode cX8_isCar 1 = .ok (.ifCond .lt 15, 3) := by decide +kernel
theorem dX8_isCar_4 : decode cX8_isCar 4 = .ok (.iload_n 1, 1) := by decide +kernel
theorem dX8_isCar_5 : decode cX8_isCar 5 = .ok (.aload_n 0, 1) := by decide +kernel
theorem dX8_isCar_6 : decode cX8_isCar 6 = .ok (.getfield 145, 3) := by decide +kernel
theorem dX8_isCar_9 : decode cX8_isCar 9 = .ok (.if_icmp .ge 7, 3) := by decide +kernel
theorem dX8_isCar_12 : decode cX8_isCar 12 = .ok (.iconst 1, 1) := by decide +kernel
theorem dX8_isCar_13 : decode cX8_isCar 13 = .ok (.goto 4, 3) := by decide +kernel
theorem dX8_isCar_16 : decode cX8_isCar 16 = .ok (.iconst 0, 1) := by decide +kernel
theorem dX8_isCar_17 : decode cX8_isCar 17 = .ok (.ireturn, 1) := by decide +kernel
theorem dX8_station_0 : decode cX8_station 0 = .ok (.iload_n 1, 1) := by decide +kernel
theorem dX8_station_1 : decode cX8_station 1 = .ok (.iconst 1, 1) := by decide +kernel
theorem dX8_station_2 : decode cX8_station 2 = .ok (.if_icmp .lt 9, 3) := by decide +kernel
theorem dX8_station_5 : decode cX8_station 5 = .ok (.iload_n 1, 1) := by decide +kernel
theorem dX8_station_6 : decode cX8_station 6 = .ok (.bipush 12, 2) := by decide +kernel
theorem dX8_station_8 : decode cX8_station 8 = .ok (.if_icmp .le 10, 3) := by decide +kernel
theorem dX8_station_11 : decode cX8_station 11 = .ok (.aload_n 0, 1) := by decide +kernel
theorem dX8_station_12 : decode cX8_station 12 = .ok (.bipush (-7), 2) := by decide +kernel
theorem dX8_station_14 : decode cX8_station 14 = .ok (.invokevirtual 148, 3) := by decide +kernel
theorem dX8_station_17 : decode cX8_station 17 = .ok (.ireturn, 1) := by decide +kernel
theorem dX8_station_18 : decode cX8_station 18 = .ok (.aload_n 0, 1) := by decide +kernel
theorem dX8_station_19 : decode cX8_station 19 = .ok (.getfield 7, 3) := by decide +kernel
theorem dX8_station_22 : decode cX8_station 22 = .ok (.bipush 8, 2) := by decide +kernel
theorem dX8_station_24 : decode cX8_station 24 = .ok (.if_icmp .ne 10, 3) := by decide +kernel
theorem dX8_station_27 : decode cX8_station 27 = .ok (.aload_n 0, 1) := by decide +kernel
theorem dX8_station_28 : decode cX8_station 28 = .ok (.bipush (-8), 2) := by decide +kernel
theorem dX8_station_30 : decode cX8_station 30 = .ok (.invokevirtual 148, 3) := by decide +kernel
theorem dX8_station_33 : decode cX8_station 33 = .ok (.ireturn, 1) := by decide +kernel
theorem dX8_station_34 : decode cX8_station 34 = .ok (.aload_n 0, 1) := by decide +kernel
theorem dX8_station_35 : decode cX8_station 35 = .ok (.getfield 13, 3) := by decide +kernel
theorem dX8_station_38 : decode cX8_station 38 = .ok (.aload_n 0, 1) := by decide +kernel
theorem dX8_station_39 : decode cX8_station 39 = .ok (.getfield 7, 3) := by decide +kernel
theorem dX8_station_42 : decode cX8_station 42 = .ok (.iconst 1, 1) := by decide +kernel
theorem dX8_station_43 : decode cX8_station 43 = .ok (.isub, 1) := by decide +kernel
theorem dX8_station_44 : decode cX8_station 44 = .ok (.iload_n 1, 1) := by decide +kernel
theorem dX8_station_45 : decode cX8_station 45 = .ok (.iastore, 1) := by decide +kernel
theorem dX8_station_46 : decode cX8_station 46 = .ok (.aload_n 0, 1) := by decide +kernel
theorem dX8_station_47 : decode cX8_station 47 = .ok (.dup, 1) := by decide +kernel
theorem dX8_station_48 : decode cX8_station 48 = .ok (.getfield 7, 3) := by decide +kernel
theorem dX8_station_51 : decode cX8_station 51 = .ok (.iconst 1, 1) := by decide +kernel
theorem dX8_station_52 : decode cX8_station 52 = .ok (.iadd, 1) := by decide +kernel
theorem dX8_station_53 : decode cX8_station 53 = .ok (.dup_x1, 1) := by decide +kernel
theorem dX8_station_54 : decode cX8_station 54 = .ok (.putfield 7, 3) := by decide +kernel
theorem dX8_station_57 : decode cX8_station 57 = .ok (.ireturn, 1) := by decide +kernel
theorem dX8_stock_0 : decode cX8_stock 0 = .ok (.aload_n 0, 1) := by decide +kernel
theorem dX8_stock_1 : decode cX8_stock 1 = .ok (.iload_n 1, 1) := by decide +kernel
theorem dX8_stock_2 : decode cX8_stock 2 = .ok (.invokevirtual 152, 3) := by decide +kernel
theorem dX8_stock_5 : decode cX8_stock 5 = .ok (.ifCond .ne 10, 3) := by decide +kernel
theorem dX8_stock_8 : decode cX8_stock 8 = .ok (.aload_n 0, 1) := by decide +kernel
theorem dX8_stock_9 : decode cX8_stock 9 = .ok (.bipush (-3), 2) := by decide +kernel
theorem dX8_stock_11 : decode cX8_stock 11 = .ok (.invokevirtual 148, 3) := by decide +kernel
theorem dX8_stock_14 : decode cX8_stock 14 = .ok (.ireturn, 1) := by decide +kernel
theorem dX8_stock_15 : decode cX8_stock 15 = .ok (.iload_n 2, 1) := by decide +kernel
theorem dX8_stock_16 : decode cX8_stock 16 = .ok (.sipush (-10000), 3) := by decide +kernel
theorem dX8_stock_19 : decode cX8_stock 19 = .ok (.if_icmp .lt 34, 3) := by decide +kernel
theorem dX8_stock_22 : decode cX8_stock 22 = .ok (.iload_n 2, 1) := by decide +kernel
theorem dX8_stock_23 : decode cX8_stock 23 = .ok (.sipush 10000, 3) := by decide +kernel
theorem dX8_stock_26 : decode cX8_stock 26 = .ok (.if_icmp .gt 27, 3) := by decide +kernel
theorem dX8_stock_29 : decode cX8_stock 29 = .ok (.aload_n 0, 1) := by decide +kernel
theorem dX8_stock_30 : decode cX8_stock 30 = .ok (.getfield 17, 3) := by decide +kernel
theorem dX8_stock_33 : decode cX8_stock 33 = .ok (.iload_n 1, 1) := by decide +kernel
theorem dX8_stock_34 : decode cX8_stock 34 = .ok (.iaload, 1) := by decide +kernel
theorem dX8_stock_35 : decode cX8_stock 35 = .ok (.iload_n 2, 1) := by decide +kernel
theorem dX8_stock_36 : decode cX8_stock 36 = .ok (.iadd, 1) := by decide +kernel
theorem dX8_stock_37 : decode cX8_stock 37 = .ok (.ifCond .lt 16, 3) := by decide +kernel
theorem dX8_stock_40 : decode cX8_stock 40 = .ok (.aload_n 0, 1) := by decide +kernel
theorem dX8_stock_41 : decode cX8_stock 41 = .ok (.getfield 17, 3) := by decide +kernel
theorem dX8_stock_44 : decode cX8_stock 44 = .ok (.iload_n 1, 1) := by decide +kernel
theorem dX8_stock_45 : decode cX8_stock 45 = .ok (.iaload, 1) := by decide +kernel
theorem dX8_stock_46 : decode cX8_stock 46 = .ok (.iload_n 2, 1) := by decide +kernel
theorem dX8_stock_47 : decode cX8_stock 47 = .ok (.iadd, 1) := by decide +kernel
theorem dX8_stock_48 : decode cX8_stock 48 = .ok (.ldc 156, 2) := by decide +kernel
theorem dX8_stock_50 : decode cX8_stock 50 = .ok (.if_icmp .le 10, 3) := by decide +kernel
theorem dX8_stock_53 : decode cX8_stock 53 = .ok (.aload_n 0, 1) := by decide +kernel
theorem dX8_stock_54 : decode cX8_stock 54 = .ok (.bipush (-7), 2) := by decide +kernel
theorem dX8_stock_56 : decode cX8_stock 56 = .ok (.invokevirtual 148, 3) := by decide +kernel
theorem dX8_stock_59 : decode cX8_stock 59 = .ok (.ireturn, 1) := by decide +kernel
theorem dX8_stock_60 : decode cX8_stock 60 = .ok (.aload_n 0, 1) := by decide +kernel
theorem dX8_stock_61 : decode cX8_stock 61 = .ok (.getfield 17, 3) := by decide +kernel
theorem dX8_stock_64 : decode cX8_stock 64 = .ok (.iload_n 1, 1) := by decide +kernel
theorem dX8_stock_65 : decode cX8_stock 65 = .ok (.dup2, 1) := by decide +kernel
theorem dX8_stock_66 : decode cX8_stock 66 = .ok (.iaload, 1) := by decide +kernel
theorem dX8_stock_67 : decode cX8_stock 67 = .ok (.iload_n 2, 1) := by decide +kernel
theorem dX8_stock_68 : decode cX8_stock 68 = .ok (.iadd, 1) := by decide +kernel
theorem dX8_stock_69 : decode cX8_stock 69 = .ok (.iastore, 1) := by decide +kernel
theorem dX8_stock_70 : decode cX8_stock 70 = .ok (.aload_n 0, 1) := by decide +kernel
theorem dX8_stock_71 : decode cX8_stock 71 = .ok (.getfield 17, 3) := by decide +kernel
theorem dX8_stock_74 : decode cX8_stock 74 = .ok (.iload_n 1, 1) := by decide +kernel
theorem dX8_stock_75 : decode cX8_stock 75 = .ok (.iaload, 1) := by decide +kernel
theorem dX8_stock_76 : decode cX8_stock 76 = .ok (.ireturn, 1) := by decide +kernel
theorem dX8_gang_0 : decode cX8_gang 0 = .ok (.aload_n 0, 1) := by decide +kernel
theorem dX8_gang_1 : decode cX8_gang 1 = .ok (.iload_n 1, 1) := by decide +kernel
theorem dX8_gang_2 : decode cX8_gang 2 = .ok (.invokevirtual 152, 3) := by decide +kernel
theorem dX8_gang_5 : decode cX8_gang 5 = .ok (.ifCond .ne 10, 3) := by decide +kernel
theorem dX8_gang_8 : decode cX8_gang 8 = .ok (.aload_n 0, 1) := by decide +kernel
theorem dX8_gang_9 : decode cX8_gang 9 = .ok (.bipush (-3), 2) := by decide +kernel
theorem dX8_gang_11 : decode cX8_gang 11 = .ok (.invokevirtual 148, 3) := by decide +kernel
theorem dX8_gang_14 : decode cX8_gang 14 = .ok (.ireturn, 1) := by decide +kernel
theorem dX8_gang_15 : decode cX8_gang 15 = .ok (.iload_n 2, 1) := by decide +kernel
theorem dX8_gang_16 : decode cX8_gang 16 = .ok (.ifCond .lt 9, 3) := by decide +kernel
theorem dX8_gang_19 : decode cX8_gang 19 = .ok (.iload_n 2, 1) := by decide +kernel
theorem dX8_gang_20 : decode cX8_gang 20 = .ok (.bipush 100, 2) := by decide +kernel
theorem dX8_gang_22 : decode cX8_gang 22 = .ok (.if_icmp .le 10, 3) := by decide +kernel
theorem dX8_gang_25 : decode cX8_gang 25 = .ok (.aload_n 0, 1) := by decide +kernel
theorem dX8_gang_26 : decode cX8_gang 26 = .ok (.bipush (-7), 2) := by decide +kernel
theorem dX8_gang_28 : decode cX8_gang 28 = .ok (.invokevirtual 148, 3) := by decide +kernel
theorem dX8_gang_31 : decode cX8_gang 31 = .ok (.ireturn, 1) := by decide +kernel
theorem dX8_gang_32 : decode cX8_gang 32 = .ok (.aload_n 0, 1) := by decide +kernel
theorem dX8_gang_33 : decode cX8_gang 33 = .ok (.getfield 20, 3) := by decide +kernel
theorem dX8_gang_36 : decode cX8_gang 36 = .ok (.iload_n 1, 1) := by decide +kernel
theorem dX8_gang_37 : decode cX8_gang 37 = .ok (.iaload, 1) := by decide +kernel
theorem dX8_gang_38 : decode cX8_gang 38 = .ok (.istore_n 3, 1) := by decide +kernel
theorem dX8_gang_39 : decode cX8_gang 39 = .ok (.aload_n 0, 1) := by decide +kernel
theorem dX8_gang_40 : decode cX8_gang 40 = .ok (.getfield 20, 3) := by decide +kernel
theorem dX8_gang_43 : decode cX8_gang 43 = .ok (.iload_n 1, 1) := by decide +kernel
theorem dX8_gang_44 : decode cX8_gang 44 = .ok (.iload_n 2, 1) := by decide +kernel
theorem dX8_gang_45 : decode cX8_gang 45 = .ok (.iastore, 1) := by decide +kernel
theorem dX8_gang_46 : decode cX8_gang 46 = .ok (.iload_n 3, 1) := by decide +kernel
theorem dX8_gang_47 : decode cX8_gang 47 = .ok (.ireturn, 1) := by decide +kernel
theorem dX8_price_0 : decode cX8_price 0 = .ok (.aload_n 0, 1) := by decide +kernel
theorem dX8_price_1 : decode cX8_price 1 = .ok (.iload_n 1, 1) := by decide +kernel
theorem dX8_price_2 : decode cX8_price 2 = .ok (.invokevirtual 152, 3) := by decide +kernel
theorem dX8_price_5 : decode cX8_price 5 = .ok (.ifCond .ne 10, 3) := by decide +kernel
theorem dX8_price_8 : decode cX8_price 8 = .ok (.aload_n 0, 1) := by decide +kernel
theorem dX8_price_9 : decode cX8_price 9 = .ok (.bipush (-3), 2) := by decide +kernel
theorem dX8_price_11 : decode cX8_price 11 = .ok (.invokevirtual 148, 3) := by decide +kernel
theorem dX8_price_14 : decode cX8_price 14 = .ok (.ireturn, 1) := by decide +kernel
theorem dX8_price_15 : decode cX8_price 15 = .ok (.iload_n 2, 1) := by decide +kernel
theorem dX8_price_16 : decode cX8_price 16 = .ok (.ifCond .lt 9, 3) := by decide +kernel
theorem dX8_price_19 : decode cX8_price 19 = .ok (.iload_n 2, 1) := by decide +kernel
theorem dX8_price_20 : decode cX8_price 20 = .ok (.bipush 99, 2) := by decide +kernel
theorem dX8_price_22 : decode cX8_price 22 = .ok (.if_icmp .le 10, 3) := by decide +kernel
theorem dX8_price_25 : decode cX8_price 25 = .ok (.aload_n 0, 1) := by decide +kernel
theorem dX8_price_26 : decode cX8_price 26 = .ok (.bipush (-7), 2) := by decide +kernel
theorem dX8_price_28 : decode cX8_price 28 = .ok (.invokevirtual 148, 3) := by decide +kernel
theorem dX8_price_31 : decode cX8_price 31 = .ok (.ireturn, 1) := by decide +kernel
theorem dX8_price_32 : decode cX8_price 32 = .ok (.aload_n 0, 1) := by decide +kernel
theorem dX8_price_33 : decode cX8_price 33 = .ok (.getfield 23, 3) := by decide +kernel
theorem dX8_price_36 : decode cX8_price 36 = .ok (.iload_n 1, 1) := by decide +kernel
theorem dX8_price_37 : decode cX8_price 37 = .ok (.iaload, 1) := by decide +kernel
theorem dX8_price_38 : decode cX8_price 38 = .ok (.istore_n 3, 1) := by decide +kernel
theorem dX8_price_39 : decode cX8_price 39 = .ok (.aload_n 0, 1) := by decide +kernel
theorem dX8_price_40 : decode cX8_price 40 = .ok (.getfield 23, 3) := by decide +kernel
theorem dX8_price_43 : decode cX8_price 43 = .ok (.iload_n 1, 1) := by decide +kernel
theorem dX8_price_44 : decode cX8_price 44 = .ok (.iload_n 2, 1) := by decide +kernel
theorem dX8_price_45 : decode cX8_price 45 = .ok (.iastore, 1) := by decide +kernel
theorem dX8_price_46 : decode cX8_price 46 = .ok (.iload_n 3, 1) := by decide +kernel
theorem dX8_price_47 : decode cX8_price 47 = .ok (.ireturn, 1) := by decide +kernel
theorem dX8_weather_0 : decode cX8_weather 0 = .ok (.aload_n 0, 1) := by decide +kernel
theorem dX8_weather_1 : decode cX8_weather 1 = .ok (.iload_n 1, 1) := by decide +kernel
theorem dX8_weather_2 : decode cX8_weather 2 = .ok (.invokevirtual 152, 3) := by decide +kernel
theorem dX8_weather_5 : decode cX8_weather 5 = .ok (.ifCond .eq 13, 3) := by decide +kernel
theorem dX8_weather_8 : decode cX8_weather 8 = .ok (.iload_n 2, 1) := by decide +kernel
theorem dX8_weather_9 : decode cX8_weather 9 = .ok (.ifCond .lt 9, 3) := by decide +kernel
theorem dX8_weather_12 : decode cX8_weather 12 = .ok (.iload_n 2, 1) := by decide +kernel
theorem dX8_weather_13 : decode cX8_weather 13 = .ok (.bipush 47, 2) := by decide +kernel
theorem dX8_weather_15 : decode cX8_weather 15 = .ok (.if_icmp .le 10, 3) := by decide +kernel
theorem dX8_weather_18 : decode cX8_weather 18 = .ok (.aload_n 0, 1) := by decide +kernel
theorem dX8_weather_19 : decode cX8_weather 19 = .ok (.bipush (-3), 2) := by decide +kernel
theorem dX8_weather_21 : decode cX8_weather 21 = .ok (.invokevirtual 157, 3) := by decide +kernel
theorem dX8_weather_24 : decode cX8_weather 24 = .ok (.ireturn, 1) := by decide +kernel
theorem dX8_weather_25 : decode cX8_weather 25 = .ok (.iload_n 3, 1) := by decide +kernel
theorem dX8_weather_26 : decode cX8_weather 26 = .ok (.sipush (-9999), 3) := by decide +kernel
theorem dX8_weather_29 : decode cX8_weather 29 = .ok (.if_icmp .eq 24, 3) := by decide +kernel
theorem dX8_weather_32 : decode cX8_weather 32 = .ok (.iload_n 3, 1) := by decide +kernel
theorem dX8_weather_33 : decode cX8_weather 33 = .ok (.sipush (-400), 3) := by decide +kernel
theorem dX8_weather_36 : decode cX8_weather 36 = .ok (.if_icmp .lt 10, 3) := by decide +kernel
theorem dX8_weather_39 : decode cX8_weather 39 = .ok (.iload_n 3, 1) := by decide +kernel
theorem dX8_weather_40 : decode cX8_weather 40 = .ok (.sipush 500, 3) := by decide +kernel
theorem dX8_weather_43 : decode cX8_weather 43 = .ok (.if_icmp .le 10, 3) := by decide +kernel
theorem dX8_weather_46 : decode cX8_weather 46 = .ok (.aload_n 0, 1) := by decide +kernel
theorem dX8_weather_47 : decode cX8_weather 47 = .ok (.bipush (-7), 2) := by decide +kernel
theorem dX8_weather_49 : decode cX8_weather 49 = .ok (.invokevirtual 157, 3) := by decide +kernel
theorem dX8_weather_52 : decode cX8_weather 52 = .ok (.ireturn, 1) := by decide +kernel
theorem dX8_weather_53 : decode cX8_weather 53 = .ok (.aload_n 0, 1) := by decide +kernel
theorem dX8_weather_54 : decode cX8_weather 54 = .ok (.getfield 32, 3) := by decide +kernel
theorem dX8_weather_57 : decode cX8_weather 57 = .ok (.bipush 48, 2) := by decide +kernel
theorem dX8_weather_59 : decode cX8_weather 59 = .ok (.iload_n 1, 1) := by decide +kernel
theorem dX8_weather_60 : decode cX8_weather 60 = .ok (.imul, 1) := by decide +kernel
theorem dX8_weather_61 : decode cX8_weather 61 = .ok (.iload_n 2, 1) := by decide +kernel
theorem dX8_weather_62 : decode cX8_weather 62 = .ok (.iadd, 1) := by decide +kernel
theorem dX8_weather_63 : decode cX8_weather 63 = .ok (.iaload, 1) := by decide +kernel
theorem dX8_weather_64 : decode cX8_weather 64 = .ok (.istore 4, 2) := by decide +kernel
theorem dX8_weather_66 : decode cX8_weather 66 = .ok (.aload_n 0, 1) := by decide +kernel
theorem dX8_weather_67 : decode cX8_weather 67 = .ok (.getfield 32, 3) := by decide +kernel
theorem dX8_weather_70 : decode cX8_weather 70 = .ok (.bipush 48, 2) := by decide +kernel
theorem dX8_weather_72 : decode cX8_weather 72 = .ok (.iload_n 1, 1) := by decide +kernel
theorem dX8_weather_73 : decode cX8_weather 73 = .ok (.imul, 1) := by decide +kernel
theorem dX8_weather_74 : decode cX8_weather 74 = .ok (.iload_n 2, 1) := by decide +kernel
theorem dX8_weather_75 : decode cX8_weather 75 = .ok (.iadd, 1) := by decide +kernel
theorem dX8_weather_76 : decode cX8_weather 76 = .ok (.iload_n 3, 1) := by decide +kernel
theorem dX8_weather_77 : decode cX8_weather 77 = .ok (.iastore, 1) := by decide +kernel
theorem dX8_weather_78 : decode cX8_weather 78 = .ok (.iload 4, 2) := by decide +kernel
theorem dX8_weather_80 : decode cX8_weather 80 = .ok (.ireturn, 1) := by decide +kernel
theorem dX8_read_0 : decode cX8_read 0 = .ok (.aload_n 0, 1) := by decide +kernel
theorem dX8_read_1 : decode cX8_read 1 = .ok (.iload_n 1, 1) := by decide +kernel
theorem dX8_read_2 : decode cX8_read 2 = .ok (.invokevirtual 152, 3) := by decide +kernel
theorem dX8_read_5 : decode cX8_read 5 = .ok (.ifCond .ne 10, 3) := by decide +kernel
theorem dX8_read_8 : decode cX8_read 8 = .ok (.aload_n 0, 1) := by decide +kernel
theorem dX8_read_9 : decode cX8_read 9 = .ok (.bipush (-3), 2) := by decide +kernel
theorem dX8_read_11 : decode cX8_read 11 = .ok (.invokevirtual 148, 3) := by decide +kernel
theorem dX8_read_14 : decode cX8_read 14 = .ok (.ireturn, 1) := by decide +kernel
theorem dX8_read_15 : decode cX8_read 15 = .ok (.aload_n 0, 1) := by decide +kernel
theorem dX8_read_16 : decode cX8_read 16 = .ok (.getfield 160, 3) := by decide +kernel
theorem dX8_read_19 : decode cX8_read 19 = .ok (.ifCond .ne 10, 3) := by decide +kernel
theorem dX8_read_22 : decode cX8_read 22 = .ok (.aload_n 0, 1) := by decide +kernel
theorem dX8_read_23 : decode cX8_read 23 = .ok (.bipush (-2), 2) := by decide +kernel
theorem dX8_read_25 : decode cX8_read 25 = .ok (.invokevirtual 148, 3) := by decide +kernel
theorem dX8_read_28 : decode cX8_read 28 = .ok (.ireturn, 1) := by decide +kernel
theorem dX8_read_29 : decode cX8_read 29 = .ok (.iconst 0, 1) := by decide +kernel
theorem dX8_read_30 : decode cX8_read 30 = .ok (.istore_n 2, 1) := by decide +kernel
theorem dX8_read_31 : decode cX8_read 31 = .ok (.iconst 0, 1) := by decide +kernel
theorem dX8_read_32 : decode cX8_read 32 = .ok (.istore_n 3, 1) := by decide +kernel
theorem dX8_read_33 : decode cX8_read 33 = .ok (.iload_n 3, 1) := by decide +kernel
theorem dX8_read_34 : decode cX8_read 34 = .ok (.bipush 48, 2) := by decide +kernel
theorem dX8_read_36 : decode cX8_read 36 = .ok (.if_icmp .ge 76, 3) := by decide +kernel
theorem dX8_read_39 : decode cX8_read 39 = .ok (.aload_n 0, 1) := by decide +kernel
theorem dX8_read_40 : decode cX8_read 40 = .ok (.getfield 129, 3) := by decide +kernel
theorem dX8_read_43 : decode cX8_read 43 = .ok (.iload_n 3, 1) := by decide +kernel
theorem dX8_read_44 : decode cX8_read 44 = .ok (.iaload, 1) := by decide +kernel
theorem dX8_read_45 : decode cX8_read 45 = .ok (.sipush (-400), 3) := by decide +kernel
theorem dX8_read_48 : decode cX8_read 48 = .ok (.if_icmp .lt 19, 3) := by decide +kernel
theorem dX8_read_51 : decode cX8_read 51 = .ok (.aload_n 0, 1) := by decide +kernel
theorem dX8_read_52 : decode cX8_read 52 = .ok (.getfield 129, 3) := by decide +kernel
theorem dX8_read_55 : decode cX8_read 55 = .ok (.iload_n 3, 1) := by decide +kernel
theorem dX8_read_56 : decode cX8_read 56 = .ok (.iaload, 1) := by decide +kernel
theorem dX8_read_57 : decode cX8_read 57 = .ok (.sipush 500, 3) := by decide +kernel
theorem dX8_read_60 : decode cX8_read 60 = .ok (.if_icmp .gt 7, 3) := by decide +kernel
theorem dX8_read_63 : decode cX8_read 63 = .ok (.iconst 1, 1) := by decide +kernel
theorem dX8_read_64 : decode cX8_read 64 = .ok (.goto 4, 3) := by decide +kernel
theorem dX8_read_67 : decode cX8_read 67 = .ok (.iconst 0, 1) := by decide +kernel
theorem dX8_read_68 : decode cX8_read 68 = .ok (.istore 4, 2) := by decide +kernel
theorem dX8_read_70 : decode cX8_read 70 = .ok (.aload_n 0, 1) := by decide +kernel
theorem dX8_read_71 : decode cX8_read 71 = .ok (.getfield 32, 3) := by decide +kernel
theorem dX8_read_74 : decode cX8_read 74 = .ok (.bipush 48, 2) := by decide +kernel
theorem dX8_read_76 : decode cX8_read 76 = .ok (.iload_n 1, 1) := by decide +kernel
theorem dX8_read_77 : decode cX8_read 77 = .ok (.imul, 1) := by decide +kernel
theorem dX8_read_78 : decode cX8_read 78 = .ok (.iload_n 3, 1) := by decide +kernel
theorem dX8_read_79 : decode cX8_read 79 = .ok (.iadd, 1) := by decide +kernel
theorem dX8_read_80 : decode cX8_read 80 = .ok (.iload 4, 2) := by decide +kernel
theorem dX8_read_82 : decode cX8_read 82 = .ok (.ifCond .eq 12, 3) := by decide +kernel
theorem dX8_read_85 : decode cX8_read 85 = .ok (.aload_n 0, 1) := by decide +kernel
theorem dX8_read_86 : decode cX8_read 86 = .ok (.getfield 129, 3) := by decide +kernel
theorem dX8_read_89 : decode cX8_read 89 = .ok (.iload_n 3, 1) := by decide +kernel
theorem dX8_read_90 : decode cX8_read 90 = .ok (.iaload, 1) := by decide +kernel
theorem dX8_read_91 : decode cX8_read 91 = .ok (.goto 6, 3) := by decide +kernel
theorem dX8_read_94 : decode cX8_read 94 = .ok (.sipush (-9999), 3) := by decide +kernel
theorem dX8_read_97 : decode cX8_read 97 = .ok (.iastore, 1) := by decide +kernel
theorem dX8_read_98 : decode cX8_read 98 = .ok (.iload 4, 2) := by decide +kernel
theorem dX8_read_100 : decode cX8_read 100 = .ok (.ifCond .eq 6, 3) := by decide +kernel
theorem dX8_read_103 : decode cX8_read 103 = .ok (.iinc 2 1, 3) := by decide +kernel
theorem dX8_read_106 : decode cX8_read 106 = .ok (.iinc 3 1, 3) := by decide +kernel
theorem dX8_read_109 : decode cX8_read 109 = .ok (.goto (-76), 3) := by decide +kernel
theorem dX8_read_112 : decode cX8_read 112 = .ok (.iload_n 2, 1) := by decide +kernel
theorem dX8_read_113 : decode cX8_read 113 = .ok (.ireturn, 1) := by decide +kernel
theorem dX8_outAt_0 : decode cX8_outAt 0 = .ok (.iconst 0, 1) := by decide +kernel
theorem dX8_outAt_1 : decode cX8_outAt 1 = .ok (.istore_n 3, 1) := by decide +kernel
theorem dX8_outAt_2 : decode cX8_outAt 2 = .ok (.iload_n 3, 1) := by decide +kernel
theorem dX8_outAt_3 : decode cX8_outAt 3 = .ok (.bipush 48, 2) := by decide +kernel
theorem dX8_outAt_5 : decode cX8_outAt 5 = .ok (.if_icmp .ge 44, 3) := by decide +kernel
theorem dX8_outAt_8 : decode cX8_outAt 8 = .ok (.aload_n 0, 1) := by decide +kernel
theorem dX8_outAt_9 : decode cX8_outAt 9 = .ok (.getfield 32, 3) := by decide +kernel
theorem dX8_outAt_12 : decode cX8_outAt 12 = .ok (.bipush 48, 2) := by decide +kernel
theorem dX8_outAt_14 : decode cX8_outAt 14 = .ok (.iload_n 1, 1) := by decide +kernel
theorem dX8_outAt_15 : decode cX8_outAt 15 = .ok (.imul, 1) := by decide +kernel
theorem dX8_outAt_16 : decode cX8_outAt 16 = .ok (.iload_n 2, 1) := by decide +kernel
theorem dX8_outAt_17 : decode cX8_outAt 17 = .ok (.bipush 48, 2) := by decide +kernel
theorem dX8_outAt_19 : decode cX8_outAt 19 = .ok (.irem, 1) := by decide +kernel
theorem dX8_outAt_20 : decode cX8_outAt 20 = .ok (.iload_n 3, 1) := by decide +kernel
theorem dX8_outAt_21 : decode cX8_outAt 21 = .ok (.isub, 1) := by decide +kernel
theorem dX8_outAt_22 : decode cX8_outAt 22 = .ok (.bipush 48, 2) := by decide +kernel
theorem dX8_outAt_24 : decode cX8_outAt 24 = .ok (.iadd, 1) := by decide +kernel
theorem dX8_outAt_25 : decode cX8_outAt 25 = .ok (.bipush 48, 2) := by decide +kernel
theorem dX8_outAt_27 : decode cX8_outAt 27 = .ok (.irem, 1) := by decide +kernel
theorem dX8_outAt_28 : decode cX8_outAt 28 = .ok (.iadd, 1) := by decide +kernel
theorem dX8_outAt_29 : decode cX8_outAt 29 = .ok (.iaload, 1) := by decide +kernel
theorem dX8_outAt_30 : decode cX8_outAt 30 = .ok (.istore 4, 2) := by decide +kernel
theorem dX8_outAt_32 : decode cX8_outAt 32 = .ok (.iload 4, 2) := by decide +kernel
theorem dX8_outAt_34 : decode cX8_outAt 34 = .ok (.sipush (-9999), 3) := by decide +kernel
theorem dX8_outAt_37 : decode cX8_outAt 37 = .ok (.if_icmp .eq 6, 3) := by decide +kernel
theorem dX8_outAt_40 : decode cX8_outAt 40 = .ok (.iload 4, 2) := by decide +kernel
theorem dX8_outAt_42 : decode cX8_outAt 42 = .ok (.ireturn, 1) := by decide +kernel
theorem dX8_outAt_43 : decode cX8_outAt 43 = .ok (.iinc 3 1, 3) := by decide +kernel
theorem dX8_outAt_46 : decode cX8_outAt 46 = .ok (.goto (-44), 3) := by decide +kernel
theorem dX8_outAt_49 : decode cX8_outAt 49 = .ok (.sipush 150, 3) := by decide +kernel
theorem dX8_outAt_52 : decode cX8_outAt 52 = .ok (.ireturn, 1) := by decide +kernel
theorem dX8_out_0 : decode cX8_out 0 = .ok (.aload_n 0, 1) := by decide +kernel
theorem dX8_out_1 : decode cX8_out 1 = .ok (.iload_n 1, 1) := by decide +kernel
theorem dX8_out_2 : decode cX8_out 2 = .ok (.invokevirtual 152, 3) := by decide +kernel
theorem dX8_out_5 : decode cX8_out 5 = .ok (.ifCond .eq 16, 3) := by decide +kernel
theorem dX8_out_8 : decode cX8_out 8 = .ok (.iload_n 2, 1) := by decide +kernel
theorem dX8_out_9 : decode cX8_out 9 = .ok (.ifCond .lt 12, 3) := by decide +kernel
theorem dX8_out_12 : decode cX8_out 12 = .ok (.aload_n 0, 1) := by decide +kernel
theorem dX8_out_13 : decode cX8_out 13 = .ok (.iload_n 1, 1) := by decide +kernel
theorem dX8_out_14 : decode cX8_out 14 = .ok (.iload_n 2, 1) := by decide +kernel
theorem dX8_out_15 : decode cX8_out 15 = .ok (.invokevirtual 164, 3) := by decide +kernel
theorem dX8_out_18 : decode cX8_out 18 = .ok (.goto 9, 3) := by decide +kernel
theorem dX8_out_21 : decode cX8_out 21 = .ok (.aload_n 0, 1) := by decide +kernel
theorem dX8_out_22 : decode cX8_out 22 = .ok (.bipush (-3), 2) := by decide +kernel
theorem dX8_out_24 : decode cX8_out 24 = .ok (.invokevirtual 157, 3) := by decide +kernel
theorem dX8_out_27 : decode cX8_out 27 = .ok (.ireturn, 1) := by decide +kernel
theorem dX8_loss_0 : decode cX8_loss 0 = .ok (.iload_n 1, 1) := by decide +kernel
theorem dX8_loss_1 : decode cX8_loss 1 = .ok (.ifCond .lt 9, 3) := by decide +kernel
theorem dX8_loss_4 : decode cX8_loss 4 = .ok (.iload_n 1, 1) := by decide +kernel
theorem dX8_loss_5 : decode cX8_loss 5 = .ok (.bipush 9, 2) := by decide +kernel
theorem dX8_loss_7 : decode cX8_loss 7 = .ok (.if_icmp .le 10, 3) := by decide +kernel
theorem dX8_loss_10 : decode cX8_loss 10 = .ok (.aload_n 0, 1) := by decide +kernel
theorem dX8_loss_11 : decode cX8_loss 11 = .ok (.bipush (-3), 2) := by decide +kernel
theorem dX8_loss_13 : decode cX8_loss 13 = .ok (.invokevirtual 148, 3) := by decide +kernel
theorem dX8_loss_16 : decode cX8_loss 16 = .ok (.ireturn, 1) := by decide +kernel
theorem dX8_loss_17 : decode cX8_loss 17 = .ok (.iload_n 2, 1) := by decide +kernel
theorem dX8_loss_18 : decode cX8_loss 18 = .ok (.ifCond .lt 10, 3) := by decide +kernel
theorem dX8_loss_21 : decode cX8_loss 21 = .ok (.iload_n 2, 1) := by decide +kernel
theorem dX8_loss_22 : decode cX8_loss 22 = .ok (.sipush 999, 3) := by decide +kernel
theorem dX8_loss_25 : decode cX8_loss 25 = .ok (.if_icmp .le 10, 3) := by decide +kernel
theorem dX8_loss_28 : decode cX8_loss 28 = .ok (.aload_n 0, 1) := by decide +kernel
theorem dX8_loss_29 : decode cX8_loss 29 = .ok (.bipush (-7), 2) := by decide +kernel
theorem dX8_loss_31 : decode cX8_loss 31 = .ok (.invokevirtual 148, 3) := by decide +kernel
theorem dX8_loss_34 : decode cX8_loss 34 = .ok (.ireturn, 1) := by decide +kernel
theorem dX8_loss_35 : decode cX8_loss 35 = .ok (.aload_n 0, 1) := by decide +kernel
theorem dX8_loss_36 : decode cX8_loss 36 = .ok (.getfield 35, 3) := by decide +kernel
theorem dX8_loss_39 : decode cX8_loss 39 = .ok (.iload_n 1, 1) := by decide +kernel
theorem dX8_loss_40 : decode cX8_loss 40 = .ok (.iaload, 1) := by decide +kernel
theorem dX8_loss_41 : decode cX8_loss 41 = .ok (.istore_n 3, 1) := by decide +kernel
theorem dX8_loss_42 : decode cX8_loss 42 = .ok (.aload_n 0, 1) := by decide +kernel
theorem dX8_loss_43 : decode cX8_loss 43 = .ok (.getfield 35, 3) := by decide +kernel
theorem dX8_loss_46 : decode cX8_loss 46 = .ok (.iload_n 1, 1) := by decide +kernel
theorem dX8_loss_47 : decode cX8_loss 47 = .ok (.iload_n 2, 1) := by decide +kernel
theorem dX8_loss_48 : decode cX8_loss 48 = .ok (.iastore, 1) := by decide +kernel
theorem dX8_loss_49 : decode cX8_loss 49 = .ok (.iload_n 3, 1) := by decide +kernel
theorem dX8_loss_50 : decode cX8_loss 50 = .ok (.ireturn, 1) := by decide +kernel
theorem dX8_car_0 : decode cX8_car 0 = .ok (.aload_n 0, 1) := by decide +kernel
theorem dX8_car_1 : decode cX8_car 1 = .ok (.iload_n 1, 1) := by decide +kernel
theorem dX8_car_2 : decode cX8_car 2 = .ok (.invokevirtual 152, 3) := by decide +kernel
theorem dX8_car_5 : decode cX8_car 5 = .ok (.ifCond .ne 10, 3) := by decide +kernel
theorem dX8_car_8 : decode cX8_car 8 = .ok (.aload_n 0, 1) := by decide +kernel
theorem dX8_car_9 : decode cX8_car 9 = .ok (.bipush (-3), 2) := by decide +kernel
theorem dX8_car_11 : decode cX8_car 11 = .ok (.invokevirtual 148, 3) := by decide +kernel
theorem dX8_car_14 : decode cX8_car 14 = .ok (.ireturn, 1) := by decide +kernel
theorem dX8_car_15 : decode cX8_car 15 = .ok (.iload_n 2, 1) := by decide +kernel
theorem dX8_car_16 : decode cX8_car 16 = .ok (.iconst 1, 1) := by decide +kernel
theorem dX8_car_17 : decode cX8_car 17 = .ok (.if_icmp .lt 23, 3) := by decide +kernel
theorem dX8_car_20 : decode cX8_car 20 = .ok (.iload_n 2, 1) := by decide +kernel
theorem dX8_car_21 : decode cX8_car 21 = .ok (.bipush 40, 2) := by decide +kernel
theorem dX8_car_23 : decode cX8_car 23 = .ok (.if_icmp .gt 17, 3) := by decide +kernel
theorem dX8_car_26 : decode cX8_car 26 = .ok (.iload_n 3, 1) := by decide +kernel
theorem dX8_car_27 : decode cX8_car 27 = .ok (.sipush (-400), 3) := by decide +kernel
theorem dX8_car_30 : decode cX8_car 30 = .ok (.if_icmp .lt 10, 3) := by decide +kernel
theorem dX8_car_33 : decode cX8_car 33 = .ok (.iload_n 3, 1) := by decide +kernel
theorem dX8_car_34 : decode cX8_car 34 = .ok (.sipush 500, 3) := by decide +kernel
theorem dX8_car_37 : decode cX8_car 37 = .ok (.if_icmp .le 10, 3) := by decide +kernel
theorem dX8_car_40 : decode cX8_car 40 = .ok (.aload_n 0, 1) := by decide +kernel
theorem dX8_car_41 : decode cX8_car 41 = .ok (.bipush (-7), 2) := by decide +kernel
theorem dX8_car_43 : decode cX8_car 43 = .ok (.invokevirtual 148, 3) := by decide +kernel
theorem dX8_car_46 : decode cX8_car 46 = .ok (.ireturn, 1) := by decide +kernel
theorem dX8_car_47 : decode cX8_car 47 = .ok (.aload_n 0, 1) := by decide +kernel
theorem dX8_car_48 : decode cX8_car 48 = .ok (.getfield 145, 3) := by decide +kernel
theorem dX8_car_51 : decode cX8_car 51 = .ok (.bipush 10, 2) := by decide +kernel
theorem dX8_car_53 : decode cX8_car 53 = .ok (.if_icmp .ne 10, 3) := by decide +kernel
theorem dX8_car_56 : decode cX8_car 56 = .ok (.aload_n 0, 1) := by decide +kernel
theorem dX8_car_57 : decode cX8_car 57 = .ok (.bipush (-8), 2) := by decide +kernel
theorem dX8_car_59 : decode cX8_car 59 = .ok (.invokevirtual 148, 3) := by decide +kernel
theorem dX8_car_62 : decode cX8_car 62 = .ok (.ireturn, 1) := by decide +kernel
theorem dX8_car_63 : decode cX8_car 63 = .ok (.aload_n 0, 1) := by decide +kernel
theorem dX8_car_64 : decode cX8_car 64 = .ok (.dup, 1) := by decide +kernel
theorem dX8_car_65 : decode cX8_car 65 = .ok (.getfield 145, 3) := by decide +kernel
theorem dX8_car_68 : decode cX8_car 68 = .ok (.dup_x1, 1) := by decide +kernel
theorem dX8_car_69 : decode cX8_car 69 = .ok (.iconst 1, 1) := by decide +kernel
theorem dX8_car_70 : decode cX8_car 70 = .ok (.iadd, 1) := by decide +kernel
theorem dX8_car_71 : decode cX8_car 71 = .ok (.putfield 145, 3) := by decide +kernel
theorem dX8_car_74 : decode cX8_car 74 = .ok (.istore 4, 2) := by decide +kernel
theorem dX8_car_76 : decode cX8_car 76 = .ok (.aload_n 0, 1) := by decide +kernel
theorem dX8_car_77 : decode cX8_car 77 = .ok (.getfield 38, 3) := by decide +kernel
theorem dX8_car_80 : decode cX8_car 80 = .ok (.iload 4, 2) := by decide +kernel
theorem dX8_car_82 : decode cX8_car 82 = .ok (.iload_n 2, 1) := by decide +kernel
theorem dX8_car_83 : decode cX8_car 83 = .ok (.iastore, 1) := by decide +kernel
theorem dX8_car_84 : decode cX8_car 84 = .ok (.aload_n 0, 1) := by decide +kernel
theorem dX8_car_85 : decode cX8_car 85 = .ok (.getfield 47, 3) := by decide +kernel
theorem dX8_car_88 : decode cX8_car 88 = .ok (.iload 4, 2) := by decide +kernel
theorem dX8_car_90 : decode cX8_car 90 = .ok (.iload_n 1, 1) := by decide +kernel
theorem dX8_car_91 : decode cX8_car 91 = .ok (.iastore, 1) := by decide +kernel
theorem dX8_car_92 : decode cX8_car 92 = .ok (.aload_n 0, 1) := by decide +kernel
theorem dX8_car_93 : decode cX8_car 93 = .ok (.getfield 56, 3) := by decide +kernel
theorem dX8_car_96 : decode cX8_car 96 = .ok (.iload 4, 2) := by decide +kernel
theorem dX8_car_98 : decode cX8_car 98 = .ok (.iconst (-1), 1) := by decide +kernel
theorem dX8_car_99 : decode cX8_car 99 = .ok (.iastore, 1) := by decide +kernel
theorem dX8_car_100 : decode cX8_car 100 = .ok (.iconst 0, 1) := by decide +kernel
theorem dX8_car_101 : decode cX8_car 101 = .ok (.istore 5, 2) := by decide +kernel
theorem dX8_car_103 : decode cX8_car 103 = .ok (.iload 5, 2) := by decide +kernel
theorem dX8_car_105 : decode cX8_car 105 = .ok (.iconst 4, 1) := by decide +kernel
theorem dX8_car_106 : decode cX8_car 106 = .ok (.if_icmp .ge 35, 3) := by decide +kernel
theorem dX8_car_109 : decode cX8_car 109 = .ok (.aload_n 0, 1) := by decide +kernel
theorem dX8_car_110 : decode cX8_car 110 = .ok (.getfield 78, 3) := by decide +kernel
theorem dX8_car_113 : decode cX8_car 113 = .ok (.iconst 4, 1) := by decide +kernel
theorem dX8_car_114 : decode cX8_car 114 = .ok (.iload 4, 2) := by decide +kernel
theorem dX8_car_116 : decode cX8_car 116 = .ok (.imul, 1) := by decide +kernel
theorem dX8_car_117 : decode cX8_car 117 = .ok (.iload 5, 2) := by decide +kernel
theorem dX8_car_119 : decode cX8_car 119 = .ok (.iadd, 1) := by decide +kernel
theorem dX8_car_120 : decode cX8_car 120 = .ok (.iload_n 3, 1) := by decide +kernel
theorem dX8_car_121 : decode cX8_car 121 = .ok (.iastore, 1) := by decide +kernel
theorem dX8_car_122 : decode cX8_car 122 = .ok (.aload_n 0, 1) := by decide +kernel
theorem dX8_car_123 : decode cX8_car 123 = .ok (.getfield 81, 3) := by decide +kernel
theorem dX8_car_126 : decode cX8_car 126 = .ok (.iconst 4, 1) := by decide +kernel
