theorem dX0_init_0 : decode cX0_init 0 = .ok (.aload_n 0, 1) := by decide +kernel
theorem dX0_init_1 : decode cX0_init 1 = .ok (.invokespecial 3, 3) := by decide +kernel
theorem dX0_init_4 : decode cX0_init 4 = .ok (.aload_n 0, 1) := by decide +kernel
theorem dX0_init_5 : decode cX0_init 5 = .ok (.iconst 4, 1) := by decide +kernel
theorem dX0_init_6 : decode cX0_init 6 = .ok (.anewarray 9, 3) := by decide +kernel
theorem dX0_init_9 : decode cX0_init 9 = .ok (.putfield 11, 3) := by decide +kernel
theorem dX0_init_12 : decode cX0_init 12 = .ok (.aload_n 0, 1) := by decide +kernel
theorem dX0_init_13 : decode cX0_init 13 = .ok (.iconst 3, 1) := by decide +kernel
theorem dX0_init_14 : decode cX0_init 14 = .ok (.newarray .int, 2) := by decide +kernel
theorem dX0_init_16 : decode cX0_init 16 = .ok (.putfield 17, 3) := by decide +kernel
theorem dX0_init_19 : decode cX0_init 19 = .ok (.aload_n 0, 1) := by decide +kernel
theorem dX0_init_20 : decode cX0_init 20 = .ok (.iconst 1, 1) := by decide +kernel
theorem dX0_init_21 : decode cX0_init 21 = .ok (.putfield 21, 3) := by decide +kernel
theorem dX0_init_24 : decode cX0_init 24 = .ok (.aload_n 0, 1) := by decide +kernel
theorem dX0_init_25 : decode cX0_init 25 = .ok (.iconst 0, 1) := by decide +kernel
theorem dX0_init_26 : decode cX0_init 26 = .ok (.putfield 25, 3) := by decide +kernel
theorem dX0_init_29 : decode cX0_init 29 = .ok (.aload_n 0, 1) := by decide +kernel
theorem dX0_init_30 : decode cX0_init 30 = .ok (.iconst 0, 1) := by decide +kernel
theorem dX0_init_31 : decode cX0_init 31 = .ok (.putfield 28, 3) := by decide +kernel
theorem dX0_init_34 : decode cX0_init 34 = .ok (.aload_n 0, 1) := by decide +kernel
theorem dX0_init_35 : decode cX0_init 35 = .ok (.iconst 0, 1) := by decide +kernel
theorem dX0_init_36 : decode cX0_init 36 = .ok (.putfield 31, 3) := by decide +kernel
theorem dX0_init_39 : decode cX0_init 39 = .ok (.aload_n 0, 1) := by decide +kernel
theorem dX0_init_40 : decode cX0_init 40 = .ok (.iconst (-1), 1) := by decide +kernel
theorem dX0_init_41 : decode cX0_init 41 = .ok (.putfield 34, 3) := by decide +kernel
theorem dX0_init_44 : decode cX0_init 44 = .ok (.aload_n 0, 1) := by decide +kernel
theorem dX0_init_45 : decode cX0_init 45 = .ok (.iconst 0, 1) := by decide +kernel
theorem dX0_init_46 : decode cX0_init 46 = .ok (.putfield 37, 3) := by decide +kernel
theorem dX0_init_49 : decode cX0_init 49 = .ok (.aload_n 0, 1) := by decide +kernel
theorem dX0_init_50 : decode cX0_init 50 = .ok (.iconst 0, 1) := by decide +kernel
theorem dX0_init_51 : decode cX0_init 51 = .ok (.putfield 40, 3) := by decide +kernel
theorem dX0_init_54 : decode cX0_init 54 = .ok (.aload_n 0, 1) := by decide +kernel
theorem dX0_init_55 : decode cX0_init 55 = .ok (.iconst 0, 1) := by decide +kernel
theorem dX0_init_56 : decode cX0_init 56 = .ok (.putfield 43, 3) := by decide +kernel
theorem dX0_init_59 : decode cX0_init 59 = .ok (.aload_n 0, 1) := by decide +kernel
theorem dX0_init_60 : decode cX0_init 60 = .ok (.iconst 0, 1) := by decide +kernel
theorem dX0_init_61 : decode cX0_init 61 = .ok (.putfield 46, 3) := by decide +kernel
theorem dX0_init_64 : decode cX0_init 64 = .ok (.aload_n 0, 1) := by decide +kernel
theorem dX0_init_65 : decode cX0_init 65 = .ok (.iconst 0, 1) := by decide +kernel
theorem dX0_init_66 : decode cX0_init 66 = .ok (.putfield 50, 3) := by decide +kernel
theorem dX0_init_69 : decode cX0_init 69 = .ok (.aload_n 0, 1) := by decide +kernel
theorem dX0_init_70 : decode cX0_init 70 = .ok (.iconst 0, 1) := by decide +kernel
theorem dX0_init_71 : decode cX0_init 71 = .ok (.putfield 53, 3) := by decide +kernel
theorem dX0_init_74 : decode cX0_init 74 = .ok (.aload_n 0, 1) := by decide +kernel
theorem dX0_init_75 : decode cX0_init 75 = .ok (.iload_n 1, 1) := by decide +kernel
theorem dX0_init_76 : decode cX0_init 76 = .ok (.putfield 56, 3) := by decide +kernel
theorem dX0_init_79 : decode cX0_init 79 = .ok (.iconst 0, 1) := by decide +kernel
theorem dX0_init_80 : decode cX0_init 80 = .ok (.istore_n 2, 1) := by decide +kernel
theorem dX0_init_81 : decode cX0_init 81 = .ok (.iload_n 2, 1) := by decide +kernel
theorem dX0_init_82 : decode cX0_init 82 = .ok (.iconst 4, 1) := by decide +kernel
theorem dX0_init_83 : decode cX0_init 83 = .ok (.if_icmp .ge 22, 3) := by decide +kernel
theorem dX0_init_86 : decode cX0_init 86 = .ok (.aload_n 0, 1) := by decide +kernel
theorem dX0_init_87 : decode cX0_init 87 = .ok (.getfield 11, 3) := by decide +kernel
theorem dX0_init_90 : decode cX0_init 90 = .ok (.iload_n 2, 1) := by decide +kernel
theorem dX0_init_91 : decode cX0_init 91 = .ok (.new 9, 3) := by decide +kernel
theorem dX0_init_94 : decode cX0_init 94 = .ok (.dup, 1) := by decide +kernel
theorem dX0_init_95 : decode cX0_init 95 = .ok (.invokespecial 59, 3) := by decide +kernel
theorem dX0_init_98 : decode cX0_init 98 = .ok (.aastore, 1) := by decide +kernel
theorem dX0_init_99 : decode cX0_init 99 = .ok (.iinc 2 1, 3) := by decide +kernel
theorem dX0_init_102 : decode cX0_init 102 = .ok (.goto (-21), 3) := by decide +kernel
theorem dX0_init_105 : decode cX0_init 105 = .ok (.return_, 1) := by decide +kernel
theorem dX0_begin_0 : decode cX0_begin 0 = .ok (.aload_n 0, 1) := by decide +kernel
theorem dX0_begin_1 : decode cX0_begin 1 = .ok (.iload_n 1, 1) := by decide +kernel
theorem dX0_begin_2 : decode cX0_begin 2 = .ok (.putfield 31, 3) := by decide +kernel
theorem dX0_begin_5 : decode cX0_begin 5 = .ok (.aload_n 0, 1) := by decide +kernel
theorem dX0_begin_6 : decode cX0_begin 6 = .ok (.iload_n 2, 1) := by decide +kernel
theorem dX0_begin_7 : decode cX0_begin 7 = .ok (.putfield 21, 3) := by decide +kernel
theorem dX0_begin_10 : decode cX0_begin 10 = .ok (.iconst 0, 1) := by decide +kernel
theorem dX0_begin_11 : decode cX0_begin 11 = .ok (.istore 4, 2) := by decide +kernel
theorem dX0_begin_13 : decode cX0_begin 13 = .ok (.iload 4, 2) := by decide +kernel
theorem dX0_begin_15 : decode cX0_begin 15 = .ok (.iconst 4, 1) := by decide +kernel
theorem dX0_begin_16 : decode cX0_begin 16 = .ok (.if_icmp .ge 20, 3) := by decide +kernel
theorem dX0_begin_19 : decode cX0_begin 19 = .ok (.aload_n 0, 1) := by decide +kernel
theorem dX0_begin_20 : decode cX0_begin 20 = .ok (.getfield 11, 3) := by decide +kernel
theorem dX0_begin_23 : decode cX0_begin 23 = .ok (.iload 4, 2) := by decide +kernel
theorem dX0_begin_25 : decode cX0_begin 25 = .ok (.aaload, 1) := by decide +kernel
theorem dX0_begin_26 : decode cX0_begin 26 = .ok (.iload_n 3, 1) := by decide +kernel
theorem dX0_begin_27 : decode cX0_begin 27 = .ok (.putfield 60, 3) := by decide +kernel
theorem dX0_begin_30 : decode cX0_begin 30 = .ok (.iinc 4 1, 3) := by decide +kernel
theorem dX0_begin_33 : decode cX0_begin 33 = .ok (.goto (-20), 3) := by decide +kernel
theorem dX0_begin_36 : decode cX0_begin 36 = .ok (.return_, 1) := by decide +kernel
theorem dX0_goes_0 : decode cX0_goes 0 = .ok (.aload_n 0, 1) := by decide +kernel
theorem dX0_goes_1 : decode cX0_goes 1 = .ok (.getfield 34, 3) := by decide +kernel
theorem dX0_goes_4 : decode cX0_goes 4 = .ok (.iconst (-1), 1) := by decide +kernel
theorem dX0_goes_5 : decode cX0_goes 5 = .ok (.if_icmp .eq 7, 3) := by decide +kernel
theorem dX0_goes_8 : decode cX0_goes 8 = .ok (.iconst 1, 1) := by decide +kernel
theorem dX0_goes_9 : decode cX0_goes 9 = .ok (.goto 4, 3) := by decide +kernel
theorem dX0_goes_12 : decode cX0_goes 12 = .ok (.iconst 0, 1) := by decide +kernel
theorem dX0_goes_13 : decode cX0_goes 13 = .ok (.ireturn, 1) := by decide +kernel
theorem dX0_isOnLeg_0 : decode cX0_isOnLeg 0 = .ok (.aload_n 0, 1) := by decide +kernel
theorem dX0_isOnLeg_1 : decode cX0_isOnLeg 1 = .ok (.getfield 37, 3) := by decide +kernel
theorem dX0_isOnLeg_4 : decode cX0_isOnLeg 4 = .ok (.ifCond .le 7, 3) := by decide +kernel
theorem dX0_isOnLeg_7 : decode cX0_isOnLeg 7 = .ok (.iconst 1, 1) := by decide +kernel
theorem dX0_isOnLeg_8 : decode cX0_isOnLeg 8 = .ok (.goto 4, 3) := by decide +kernel
theorem dX0_isOnLeg_11 : decode cX0_isOnLeg 11 = .ok (.iconst 0, 1) := by decide +kernel
theorem dX0_isOnLeg_12 : decode cX0_isOnLeg 12 = .ok (.ireturn, 1) := by decide +kernel
theorem dX0_nextStation_0 : decode cX0_nextStation 0 = .ok (.aload_n 0, 1) := by decide +kernel
theorem dX0_nextStation_1 : decode cX0_nextStation 1 = .ok (.getfield 34, 3) := by decide +kernel
theorem dX0_nextStation_4 : decode cX0_nextStation 4 = .ok (.aload_n 0, 1) := by decide +kernel
theorem dX0_nextStation_5 : decode cX0_nextStation 5 = .ok (.getfield 31, 3) := by decide +kernel
theorem dX0_nextStation_8 : decode cX0_nextStation 8 = .ok (.if_icmp .le 12, 3) := by decide +kernel
theorem dX0_nextStation_11 : decode cX0_nextStation 11 = .ok (.aload_n 0, 1) := by decide +kernel
theorem dX0_nextStation_12 : decode cX0_nextStation 12 = .ok (.getfield 31, 3) := by decide +kernel
theorem dX0_nextStation_15 : decode cX0_nextStation 15 = .ok (.iconst 1, 1) := by decide +kernel
theorem dX0_nextStation_16 : decode cX0_nextStation 16 = .ok (.iadd, 1) := by decide +kernel
theorem dX0_nextStation_17 : decode cX0_nextStation 17 = .ok (.goto 9, 3) := by decide +kernel
theorem dX0_nextStation_20 : decode cX0_nextStation 20 = .ok (.aload_n 0, 1) := by decide +kernel
theorem dX0_nextStation_21 : decode cX0_nextStation 21 = .ok (.getfield 31, 3) := by decide +kernel
theorem dX0_nextStation_24 : decode cX0_nextStation 24 = .ok (.iconst 1, 1) := by decide +kernel
theorem dX0_nextStation_25 : decode cX0_nextStation 25 = .ok (.isub, 1) := by decide +kernel
theorem dX0_nextStation_26 : decode cX0_nextStation 26 = .ok (.ireturn, 1) := by decide +kernel
theorem dX0_canHeadFor_0 : decode cX0_canHeadFor 0 = .ok (.aload_n 0, 1) := by decide +kernel
theorem dX0_canHeadFor_1 : decode cX0_canHeadFor 1 = .ok (.invokevirtual 63, 3) := by decide +kernel
theorem dX0_canHeadFor_4 : decode cX0_canHeadFor 4 = .ok (.ifCond .eq 28, 3) := by decide +kernel
theorem dX0_canHeadFor_7 : decode cX0_canHeadFor 7 = .ok (.aload_n 0, 1) := by decide +kernel
theorem dX0_canHeadFor_8 : decode cX0_canHeadFor 8 = .ok (.getfield 34, 3) := by decide +kernel
theorem dX0_canHeadFor_11 : decode cX0_canHeadFor 11 = .ok (.aload_n 0, 1) := by decide +kernel
theorem dX0_canHeadFor_12 : decode cX0_canHeadFor 12 = .ok (.getfield 31, 3) := by decide +kernel
theorem dX0_canHeadFor_15 : decode cX0_canHeadFor 15 = .ok (.if_icmp .le 17, 3) := by decide +kernel
theorem dX0_canHeadFor_18 : decode cX0_canHeadFor 18 = .ok (.iload_n 1, 1) := by decide +kernel
theorem dX0_canHeadFor_19 : decode cX0_canHeadFor 19 = .ok (.aload_n 0, 1) := by decide +kernel
theorem dX0_canHeadFor_20 : decode cX0_canHeadFor 20 = .ok (.getfield 31, 3) := by decide +kernel
theorem dX0_canHeadFor_23 : decode cX0_canHeadFor 23 = .ok (.if_icmp .le 7, 3) := by decide +kernel
theorem dX0_canHeadFor_26 : decode cX0_canHeadFor 26 = .ok (.iconst 1, 1) := by decide +kernel
theorem dX0_canHeadFor_27 : decode cX0_canHeadFor 27 = .ok (.goto 4, 3) := by decide +kernel
theorem dX0_canHeadFor_30 : decode cX0_canHeadFor 30 = .ok (.iconst 0, 1) := by decide +kernel
theorem dX0_canHeadFor_31 : decode cX0_canHeadFor 31 = .ok (.ireturn, 1) := by decide +kernel
theorem dX0_canHeadFor_32 : decode cX0_canHeadFor 32 = .ok (.aload_n 0, 1) := by decide +kernel
theorem dX0_canHeadFor_33 : decode cX0_canHeadFor 33 = .ok (.invokevirtual 63, 3) := by decide +kernel
theorem dX0_canHeadFor_36 : decode cX0_canHeadFor 36 = .ok (.ifCond .eq 17, 3) := by decide +kernel
theorem dX0_canHeadFor_39 : decode cX0_canHeadFor 39 = .ok (.iload_n 1, 1) := by decide +kernel
theorem dX0_canHeadFor_40 : decode cX0_canHeadFor 40 = .ok (.aload_n 0, 1) := by decide +kernel
theorem dX0_canHeadFor_41 : decode cX0_canHeadFor 41 = .ok (.getfield 31, 3) := by decide +kernel
theorem dX0_canHeadFor_44 : decode cX0_canHeadFor 44 = .ok (.if_icmp .ge 7, 3) := by decide +kernel
theorem dX0_canHeadFor_47 : decode cX0_canHeadFor 47 = .ok (.iconst 1, 1) := by decide +kernel
theorem dX0_canHeadFor_48 : decode cX0_canHeadFor 48 = .ok (.goto 4, 3) := by decide +kernel
theorem dX0_canHeadFor_51 : decode cX0_canHeadFor 51 = .ok (.iconst 0, 1) := by decide +kernel
theorem dX0_canHeadFor_52 : decode cX0_canHeadFor 52 = .ok (.ireturn, 1) := by decide +kernel
theorem dX0_canHeadFor_53 : decode cX0_canHeadFor 53 = .ok (.iload_n 1, 1) := by decide +kernel
theorem dX0_canHeadFor_54 : decode cX0_canHeadFor 54 = .ok (.aload_n 0, 1) := by decide +kernel
theorem dX0_canHeadFor_55 : decode cX0_canHeadFor 55 = .ok (.getfield 31, 3) := by decide +kernel
theorem dX0_canHeadFor_58 : decode cX0_canHeadFor 58 = .ok (.if_icmp .eq 7, 3) := by decide +kernel
theorem dX0_canHeadFor_61 : decode cX0_canHeadFor 61 = .ok (.iconst 1, 1) := by decide +kernel
theorem dX0_canHeadFor_62 : decode cX0_canHeadFor 62 = .ok (.goto 4, 3) := by decide +kernel
theorem dX0_canHeadFor_65 : decode cX0_canHeadFor 65 = .ok (.iconst 0, 1) := by decide +kernel
theorem dX0_canHeadFor_66 : decode cX0_canHeadFor 66 = .ok (.ireturn, 1) := by decide +kernel
theorem dX0_setOff_0 : decode cX0_setOff 0 = .ok (.aload_n 0, 1) := by decide +kernel
theorem dX0_setOff_1 : decode cX0_setOff 1 = .ok (.iload_n 1, 1) := by decide +kernel
theorem dX0_setOff_2 : decode cX0_setOff 2 = .ok (.putfield 34, 3) := by decide +kernel
theorem dX0_setOff_5 : decode cX0_setOff 5 = .ok (.aload_n 0, 1) := by decide +kernel
theorem dX0_setOff_6 : decode cX0_setOff 6 = .ok (.iload_n 2, 1) := by decide +kernel
theorem dX0_setOff_7 : decode cX0_setOff 7 = .ok (.putfield 40, 3) := by decide +kernel
theorem dX0_setOff_10 : decode cX0_setOff 10 = .ok (.aload_n 0, 1) := by decide +kernel
theorem dX0_setOff_11 : decode cX0_setOff 11 = .ok (.iconst 0, 1) := by decide +kernel
theorem dX0_setOff_12 : decode cX0_setOff 12 = .ok (.putfield 50, 3) := by decide +kernel
theorem dX0_setOff_15 : decode cX0_setOff 15 = .ok (.aload_n 0, 1) := by decide +kernel
theorem dX0_setOff_16 : decode cX0_setOff 16 = .ok (.iconst 1, 1) := by decide +kernel
theorem dX0_setOff_17 : decode cX0_setOff 17 = .ok (.putfield 53, 3) := by decide +kernel
theorem dX0_setOff_20 : decode cX0_setOff 20 = .ok (.aload_n 0, 1) := by decide +kernel
theorem dX0_setOff_21 : decode cX0_setOff 21 = .ok (.getfield 17, 3) := by decide +kernel
theorem dX0_setOff_24 : decode cX0_setOff 24 = .ok (.iconst 0, 1) := by decide +kernel
theorem dX0_setOff_25 : decode cX0_setOff 25 = .ok (.invokestatic 67, 3) := by decide +kernel
theorem dX0_setOff_28 : decode cX0_setOff 28 = .ok (.return_, 1) := by decide +kernel
theorem dX0_greatestHeat_0 : decode cX0_greatestHeat 0 = .ok (.aload_n 0, 1) := by decide +kernel
theorem dX0_greatestHeat_1 : decode cX0_greatestHeat 1 = .ok (.getfield 11, 3) := by decide +kernel
theorem dX0_greatestHeat_4 : decode cX0_greatestHeat 4 = .ok (.iconst 0, 1) := by decide +kernel
theorem dX0_greatestHeat_5 : decode cX0_greatestHeat 5 = .ok (.aaload, 1) := by decide +kernel
theorem dX0_greatestHeat_6 : decode cX0_greatestHeat 6 = .ok (.getfield 60, 3) := by decide +kernel
theorem dX0_greatestHeat_9 : decode cX0_greatestHeat 9 = .ok (.istore_n 1, 1) := by decide +kernel
theorem dX0_greatestHeat_10 : decode cX0_greatestHeat 10 = .ok (.iconst 1, 1) := by decide +kernel
theorem dX0_greatestHeat_11 : decode cX0_greatestHeat 11 = .ok (.istore_n 2, 1) := by decide +kernel
theorem dX0_greatestHeat_12 : decode cX0_greatestHeat 12 = .ok (.iload_n 2, 1) := by decide +kernel
theorem dX0_greatestHeat_13 : decode cX0_greatestHeat 13 = .ok (.iconst 4, 1) := by decide +kernel
theorem dX0_greatestHeat_14 : decode cX0_greatestHeat 14 = .ok (.if_icmp .ge 23, 3) := by decide +kernel
theorem dX0_greatestHeat_17 : decode cX0_greatestHeat 17 = .ok (.iload_n 1, 1) := by decide +kernel
theorem dX0_greatestHeat_18 : decode cX0_greatestHeat 18 = .ok (.aload_n 0, 1) := by decide +kernel
theorem dX0_greatestHeat_19 : decode cX0_greatestHeat 19 = .ok (.getfield 11, 3) := by decide +kernel
theorem dX0_greatestHeat_22 : decode cX0_greatestHeat 22 = .ok (.iload_n 2, 1) := by decide +kernel
theorem dX0_greatestHeat_23 : decode cX0_greatestHeat 23 = .ok (.aaload, 1) := by decide +kernel
theorem dX0_greatestHeat_24 : decode cX0_greatestHeat 24 = .ok (.getfield 60, 3) := by decide +kernel
theorem dX0_greatestHeat_27 : decode cX0_greatestHeat 27 = .ok (.invokestatic 73, 3) := by decide +kernel
theorem dX0_greatestHeat_30 : decode cX0_greatestHeat 30 = .ok (.istore_n 1, 1) := by decide +kernel
theorem dX0_greatestHeat_31 : decode cX0_greatestHeat 31 = .ok (.iinc 2 1, 3) := by decide +kernel
theorem dX0_greatestHeat_34 : decode cX0_greatestHeat 34 = .ok (.goto (-22), 3) := by decide +kernel
theorem dX0_greatestHeat_37 : decode cX0_greatestHeat 37 = .ok (.iload_n 1, 1) := by decide +kernel
theorem dX0_greatestHeat_38 : decode cX0_greatestHeat 38 = .ok (.ireturn, 1) := by decide +kernel
theorem dX0_useIce_0 : decode cX0_useIce 0 = .ok (.iconst 0, 1) := by decide +kernel
theorem dX0_useIce_1 : decode cX0_useIce 1 = .ok (.istore_n 1, 1) := by decide +kernel
theorem dX0_useIce_2 : decode cX0_useIce 2 = .ok (.iconst 0, 1) := by decide +kernel
theorem dX0_useIce_3 : decode cX0_useIce 3 = .ok (.istore_n 2, 1) := by decide +kernel
theorem dX0_useIce_4 : decode cX0_useIce 4 = .ok (.iload_n 2, 1) := by decide +kernel
theorem dX0_useIce_5 : decode cX0_useIce 5 = .ok (.iconst 4, 1) := by decide +kernel
theorem dX0_useIce_6 : decode cX0_useIce 6 = .ok (.if_icmp .ge 25, 3) := by decide +kernel
theorem dX0_useIce_9 : decode cX0_useIce 9 = .ok (.iload_n 1, 1) := by decide +kernel
theorem dX0_useIce_10 : decode cX0_useIce 10 = .ok (.iconst 0, 1) := by decide +kernel
theorem dX0_useIce_11 : decode cX0_useIce 11 = .ok (.aload_n 0, 1) := by decide +kernel
theorem dX0_useIce_12 : decode cX0_useIce 12 = .ok (.getfield 11, 3) := by decide +kernel
theorem dX0_useIce_15 : decode cX0_useIce 15 = .ok (.iload_n 2, 1) := by decide +kernel
theorem dX0_useIce_16 : decode cX0_useIce 16 = .ok (.aaload, 1) := by decide +kernel
theorem dX0_useIce_17 : decode cX0_useIce 17 = .ok (.getfield 60, 3) := by decide +kernel
theorem dX0_useIce_20 : decode cX0_useIce 20 = .ok (.invokestatic 73, 3) := by decide +kernel
theorem dX0_useIce_23 : decode cX0_useIce 23 = .ok (.iadd, 1) := by decide +kernel
theorem dX0_useIce_24 : decode cX0_useIce 24 = .ok (.istore_n 1, 1) := by decide +kernel
theorem dX0_useIce_25 : decode cX0_useIce 25 = .ok (.iinc 2 1, 3) := by decide +kernel
theorem dX0_useIce_28 : decode cX0_useIce 28 = .ok (.goto (-24), 3) := by decide +kernel
theorem dX0_useIce_31 : decode cX0_useIce 31 = .ok (.aload_n 0, 1) := by decide +kernel
theorem dX0_useIce_32 : decode cX0_useIce 32 = .ok (.getfield 25, 3) := by decide +kernel
theorem dX0_useIce_35 : decode cX0_useIce 35 = .ok (.iload_n 1, 1) := by decide +kernel
theorem dX0_useIce_36 : decode cX0_useIce 36 = .ok (.bipush 100, 2) := by decide +kernel
theorem dX0_useIce_38 : decode cX0_useIce 38 = .ok (.idiv, 1) := by decide +kernel
theorem dX0_useIce_39 : decode cX0_useIce 39 = .ok (.invokestatic 79, 3) := by decide +kernel
theorem dX0_useIce_42 : decode cX0_useIce 42 = .ok (.istore_n 2, 1) := by decide +kernel
theorem dX0_useIce_43 : decode cX0_useIce 43 = .ok (.aload_n 0, 1) := by decide +kernel
theorem dX0_useIce_44 : decode cX0_useIce 44 = .ok (.dup, 1) := by decide +kernel
theorem dX0_useIce_45 : decode cX0_useIce 45 = .ok (.getfield 25, 3) := by decide +kernel
theorem dX0_useIce_48 : decode cX0_useIce 48 = .ok (.iload_n 2, 1) := by decide +kernel
theorem dX0_useIce_49 : decode cX0_useIce 49 = .ok (.isub, 1) := by decide +kernel
theorem dX0_useIce_50 : decode cX0_useIce 50 = .ok (.putfield 25, 3) := by decide +kernel
theorem dX0_useIce_53 : decode cX0_useIce 53 = .ok (.iload_n 2, 1) := by decide +kernel
theorem dX0_useIce_54 : decode cX0_useIce 54 = .ok (.ireturn, 1) := by decide +kernel
theorem dX0_warmTiers_0 : decode cX0_warmTiers 0 = .ok (.aload_n 0, 1) := by decide +kernel
theorem dX0_warmTiers_1 : decode cX0_warmTiers 1 = .ok (.getfield 21, 3) := by decide +kernel
theorem dX0_warmTiers_4 : decode cX0_warmTiers 4 = .ok (.aload_n 0, 1) := by decide +kernel
theorem dX0_warmTiers_5 : decode cX0_warmTiers 5 = .ok (.getfield 28, 3) := by decide +kernel
theorem dX0_warmTiers_8 : decode cX0_warmTiers 8 = .ok (.ifCond .ne 7, 3) := by decide +kernel
theorem dX0_warmTiers_11 : decode cX0_warmTiers 11 = .ok (.iconst 0, 1) := by decide +kernel
theorem dX0_warmTiers_12 : decode cX0_warmTiers 12 = .ok (.goto 5, 3) := by decide +kernel
theorem dX0_warmTiers_15 : decode cX0_warmTiers 15 = .ok (.bipush 15, 2) := by decide +kernel
theorem dX0_warmTiers_17 : decode cX0_warmTiers 17 = .ok (.iadd, 1) := by decide +kernel
theorem dX0_warmTiers_18 : decode cX0_warmTiers 18 = .ok (.istore 4, 2) := by decide +kernel
theorem dX0_warmTiers_20 : decode cX0_warmTiers 20 = .ok (.iconst 0, 1) := by decide +kernel
theorem dX0_warmTiers_21 : decode cX0_warmTiers 21 = .ok (.istore 5, 2) := by decide +kernel
theorem dX0_warmTiers_23 : decode cX0_warmTiers 23 = .ok (.iconst 0, 1) := by decide +kernel
theorem dX0_warmTiers_24 : decode cX0_warmTiers 24 = .ok (.istore 6, 2) := by decide +kernel
theorem dX0_warmTiers_26 : decode cX0_warmTiers 26 = .ok (.iload 6, 2) := by decide +kernel
theorem dX0_warmTiers_28 : decode cX0_warmTiers 28 = .ok (.iconst 4, 1) := by decide +kernel
theorem dX0_warmTiers_29 : decode cX0_warmTiers 29 = .ok (.if_icmp .ge 70, 3) := by decide +kernel
theorem dX0_warmTiers_32 : decode cX0_warmTiers 32 = .ok (.aload_n 0, 1) := by decide +kernel
theorem dX0_warmTiers_33 : decode cX0_warmTiers 33 = .ok (.getfield 11, 3) := by decide +kernel
theorem dX0_warmTiers_36 : decode cX0_warmTiers 36 = .ok (.iload 6, 2) := by decide +kernel
theorem dX0_warmTiers_38 : decode cX0_warmTiers 38 = .ok (.aaload, 1) := by decide +kernel
theorem dX0_warmTiers_39 : decode cX0_warmTiers 39 = .ok (.astore 7, 2) := by decide +kernel
theorem dX0_warmTiers_41 : decode cX0_warmTiers 41 = .ok (.aload 7, 2) := by decide +kernel
theorem dX0_warmTiers_43 : decode cX0_warmTiers 43 = .ok (.dup, 1) := by decide +kernel
theorem dX0_warmTiers_44 : decode cX0_warmTiers 44 = .ok (.getfield 60, 3) := by decide +kernel
theorem dX0_warmTiers_47 : decode cX0_warmTiers 47 = .ok (.iload_n 1, 1) := by decide +kernel
theorem dX0_warmTiers_48 : decode cX0_warmTiers 48 = .ok (.aload 7, 2) := by decide +kernel
theorem dX0_warmTiers_50 : decode cX0_warmTiers 50 = .ok (.getfield 60, 3) := by decide +kernel
theorem dX0_warmTiers_53 : decode cX0_warmTiers 53 = .ok (.isub, 1) := by decide +kernel
theorem dX0_warmTiers_54 : decode cX0_warmTiers 54 = .ok (.iload 4, 2) := by decide +kernel
theorem dX0_warmTiers_56 : decode cX0_warmTiers 56 = .ok (.imul, 1) := by decide +kernel
theorem dX0_warmTiers_57 : decode cX0_warmTiers 57 = .ok (.bipush 100, 2) := by decide +kernel
theorem dX0_warmTiers_59 : decode cX0_warmTiers 59 = .ok (.idiv, 1) := by decide +kernel
theorem dX0_warmTiers_60 : decode cX0_warmTiers 60 = .ok (.iadd, 1) := by decide +kernel
theorem dX0_warmTiers_61 : decode cX0_warmTiers 61 = .ok (.putfield 60, 3) := by decide +kernel
theorem dX0_warmTiers_64 : decode cX0_warmTiers 64 = .ok (.aload 7, 2) := by decide +kernel
theorem dX0_warmTiers_66 : decode cX0_warmTiers 66 = .ok (.dup, 1) := by decide +kernel
theorem dX0_warmTiers_67 : decode cX0_warmTiers 67 = .ok (.getfield 60, 3) := by decide +kernel
theorem dX0_warmTiers_70 : decode cX0_warmTiers 70 = .ok (.iload_n 2, 1) := by decide +kernel
theorem dX0_warmTiers_71 : decode cX0_warmTiers 71 = .ok (.iconst 4, 1) := by decide +kernel
theorem dX0_warmTiers_72 : decode cX0_warmTiers 72 = .ok (.iload 6, 2) := by decide +kernel
theorem dX0_warmTiers_74 : decode cX0_warmTiers 74 = .ok (.isub, 1) := by decide +kernel
theorem dX0_warmTiers_75 : decode cX0_warmTiers 75 = .ok (.imul, 1) := by decide +kernel
theorem dX0_warmTiers_76 : decode cX0_warmTiers 76 = .ok (.iconst 2, 1) := by decide +kernel
theorem dX0_warmTiers_77 : decode cX0_warmTiers 77 = .ok (.idiv, 1) := by decide +kernel
theorem dX0_warmTiers_78 : decode cX0_warmTiers 78 = .ok (.isub, 1) := by decide +kernel
theorem dX0_warmTiers_79 : decode cX0_warmTiers 79 = .ok (.putfield 60, 3) := by decide +kernel
theorem dX0_warmTiers_82 : decode cX0_warmTiers 82 = .ok (.iload 5, 2) := by decide +kernel
theorem dX0_warmTiers_84 : decode cX0_warmTiers 84 = .ok (.aload 7, 2) := by decide +kernel
theorem dX0_warmTiers_86 : decode cX0_warmTiers 86 = .ok (.aload_n 3, 1) := by decide +kernel
theorem dX0_warmTiers_87 : decode cX0_warmTiers 87 = .ok (.invokevirtual 82, 3) := by decide +kernel
theorem dX0_warmTiers_90 : decode cX0_warmTiers 90 = .ok (.iadd, 1) := by decide +kernel
theorem dX0_warmTiers_91 : decode cX0_warmTiers 91 = .ok (.istore 5, 2) := by decide +kernel
theorem dX0_warmTiers_93 : decode cX0_warmTiers 93 = .ok (.iinc 6 1, 3) := by decide +kernel
theorem dX0_warmTiers_96 : decode cX0_warmTiers 96 = .ok (.goto (-70), 3) := by decide +kernel
theorem dX0_warmTiers_99 : decode cX0_warmTiers 99 = .ok (.iload 5, 2) := by decide +kernel
theorem dX0_warmTiers_101 : decode cX0_warmTiers 101 = .ok (.ireturn, 1) := by decide +kernel
theorem dX0_addClaim_0 : decode cX0_addClaim 0 = .ok (.aload_n 0, 1) := by decide +kernel
theorem dX0_addClaim_1 : decode cX0_addClaim 1 = .ok (.getfield 53, 3) := by decide +kernel
theorem dX0_addClaim_4 : decode cX0_addClaim 4 = .ok (.ifCond .ne 4, 3) := by decide +kernel
theorem dX0_addClaim_7 : decode cX0_addClaim 7 = .ok (.return_, 1) := by decide +kernel
theorem dX0_addClaim_8 : decode cX0_addClaim 8 = .ok (.iconst 2, 1) := by decide +kernel
theorem dX0_addClaim_9 : decode cX0_addClaim 9 = .ok (.istore_n 2, 1) := by decide +kernel
theorem dX0_addClaim_10 : decode cX0_addClaim 10 = .ok (.aload_n 0, 1) := by decide +kernel
theorem dX0_addClaim_11 : decode cX0_addClaim 11 = .ok (.getfield 46, 3) := by decide +kernel
theorem dX0_addClaim_14 : decode cX0_addClaim 14 = .ok (.ifCond .eq 8, 3) := by decide +kernel
theorem dX0_addClaim_17 : decode cX0_addClaim 17 = .ok (.iconst 0, 1) := by decide +kernel
theorem dX0_addClaim_18 : decode cX0_addClaim 18 = .ok (.istore_n 2, 1) := by decide +kernel
theorem dX0_addClaim_19 : decode cX0_addClaim 19 = .ok (.goto 12, 3) := by decide +kernel
theorem dX0_addClaim_22 : decode cX0_addClaim 22 = .ok (.aload_n 0, 1) := by decide +kernel
theorem dX0_addClaim_23 : decode cX0_addClaim 23 = .ok (.getfield 40, 3) := by decide +kernel
theorem dX0_addClaim_26 : decode cX0_addClaim 26 = .ok (.ifCond .le 5, 3) := by decide +kernel
theorem dX0_addClaim_29 : decode cX0_addClaim 29 = .ok (.iconst 1, 1) := by decide +kernel
theorem dX0_addClaim_30 : decode cX0_addClaim 30 = .ok (.istore_n 2, 1) := by decide +kernel
theorem dX0_addClaim_31 : decode cX0_addClaim 31 = .ok (.aload_n 0, 1) := by decide +kernel
theorem dX0_addClaim_32 : decode cX0_addClaim 32 = .ok (.getfield 17, 3) := by decide +kernel
theorem dX0_addClaim_35 : decode cX0_addClaim 35 = .ok (.iload_n 2, 1) := by decide +kernel
theorem dX0_addClaim_36 : decode cX0_addClaim 36 = .ok (.dup2, 1) := by decide +kernel
theorem dX0_addClaim_37 : decode cX0_addClaim 37 = .ok (.iaload, 1) := by decide +kernel
theorem dX0_addClaim_38 : decode cX0_addClaim 38 = .ok (.iload_n 1, 1) := by decide +kernel
theorem dX0_addClaim_39 : decode cX0_addClaim 39 = .ok (.sipush 1000, 3) := by decide +kernel
theorem dX0_addClaim_42 : decode cX0_addClaim 42 = .ok (.idiv, 1) := by decide +kernel
theorem dX0_addClaim_43 : decode cX0_addClaim 43 = .ok (.iadd, 1) := by decide +kernel
theorem dX0_addClaim_44 : decode cX0_addClaim 44 = .ok (.iastore, 1) := by decide +kernel
theorem dX0_addClaim_45 : decode cX0_addClaim 45 = .ok (.return_, 1) := by decide +kernel
theorem dX0_priceOfLoads_0 : decode cX0_priceOfLoads 0 = .ok (.iconst 0, 1) := by decide +kernel
theorem dX0_priceOfLoads_1 : decode cX0_priceOfLoads 1 = .ok (.istore_n 2, 1) := by decide +kernel
theorem dX0_priceOfLoads_2 : decode cX0_priceOfLoads 2 = .ok (.iconst 0, 1) := by decide +kernel
theorem dX0_priceOfLoads_3 : decode cX0_priceOfLoads 3 = .ok (.istore_n 3, 1) := by decide +kernel
theorem dX0_priceOfLoads_4 : decode cX0_priceOfLoads 4 = .ok (.iload_n 3, 1) := by decide +kernel
theorem dX0_priceOfLoads_5 : decode cX0_priceOfLoads 5 = .ok (.iconst 4, 1) := by decide +kernel
theorem dX0_priceOfLoads_6 : decode cX0_priceOfLoads 6 = .ok (.if_icmp .ge 37, 3) := by decide +kernel
theorem dX0_priceOfLoads_9 : decode cX0_priceOfLoads 9 = .ok (.iload_n 2, 1) := by decide +kernel
theorem dX0_priceOfLoads_10 : decode cX0_priceOfLoads 10 = .ok (.aload_n 0, 1) := by decide +kernel
theorem dX0_priceOfLoads_11 : decode cX0_priceOfLoads 11 = .ok (.getfield 11, 3) := by decide +kernel
theorem dX0_priceOfLoads_14 : decode cX0_priceOfLoads 14 = .ok (.iload_n 3, 1) := by decide +kernel
theorem dX0_priceOfLoads_15 : decode cX0_priceOfLoads 15 = .ok (.aaload, 1) := by decide +kernel
theorem dX0_priceOfLoads_16 : decode cX0_priceOfLoads 16 = .ok (.getfield 86, 3) := by decide +kernel
theorem dX0_priceOfLoads_19 : decode cX0_priceOfLoads 19 = .ok (.aload_n 0, 1) := by decide +kernel
theorem dX0_priceOfLoads_20 : decode cX0_priceOfLoads 20 = .ok (.getfield 11, 3) := by decide +kernel
theorem dX0_priceOfLoads_23 : decode cX0_priceOfLoads 23 = .ok (.iload_n 3, 1) := by decide +kernel
theorem dX0_priceOfLoads_24 : decode cX0_priceOfLoads 24 = .ok (.aaload, 1) := by decide +kernel
theorem dX0_priceOfLoads_25 : decode cX0_priceOfLoads 25 = .ok (.getfield 89, 3) := by decide +kernel
theorem dX0_priceOfLoads_28 : decode cX0_priceOfLoads 28 = .ok (.imul, 1) := by decide +kernel
theorem dX0_priceOfLoads_29 : decode cX0_priceOfLoads 29 = .ok (.iload_n 1, 1) := by decide +kernel
theorem dX0_priceOfLoads_30 : decode cX0_priceOfLoads 30 = .ok (.imul, 1) := by decide +kernel
theorem dX0_priceOfLoads_31 : decode cX0_priceOfLoads 31 = .ok (.sipush 1000, 3) := by decide +kernel
theorem dX0_priceOfLoads_34 : decode cX0_priceOfLoads 34 = .ok (.idiv, 1) := by decide +kernel
theorem dX0_priceOfLoads_35 : decode cX0_priceOfLoads 35 = .ok (.iadd, 1) := by decide +kernel
theorem dX0_priceOfLoads_36 : decode cX0_priceOfLoads 36 = .ok (.istore_n 2, 1) := by decide +kernel
theorem dX0_priceOfLoads_37 : decode cX0_priceOfLoads 37 = .ok (.iinc 3 1, 3) := by decide +kernel
theorem dX0_priceOfLoads_40 : decode cX0_priceOfLoads 40 = .ok (.goto (-36), 3) := by decide +kernel
theorem dX0_priceOfLoads_43 : decode cX0_priceOfLoads 43 = .ok (.iload_n 2, 1) := by decide +kernel
theorem dX0_priceOfLoads_44 : decode cX0_priceOfLoads 44 = .ok (.ireturn, 1) := by decide +kernel
theorem dX0_unload_0 : decode cX0_unload 0 = .ok (.iconst 0, 1) := by decide +kernel
theorem dX0_unload_1 : decode cX0_unload 1 = .ok (.istore_n 1, 1) := by decide +kernel
theorem dX0_unload_2 : decode cX0_unload 2 = .ok (.iload_n 1, 1) := by decide +kernel
theorem dX0_unload_3 : decode cX0_unload 3 = .ok (.iconst 4, 1) := by decide +kernel
theorem dX0_unload_4 : decode cX0_unload 4 = .ok (.if_icmp .ge 18, 3) := by decide +kernel
theorem dX0_unload_7 : decode cX0_unload 7 = .ok (.aload_n 0, 1) := by decide +kernel
theorem dX0_unload_8 : decode cX0_unload 8 = .ok (.getfield 11, 3) := by decide +kernel
theorem dX0_unload_11 : decode cX0_unload 11 = .ok (.iload_n 1, 1) := by decide +kernel
theorem dX0_unload_12 : decode cX0_unload 12 = .ok (.aaload, 1) := by decide +kernel
theorem dX0_unload_13 : decode cX0_unload 13 = .ok (.invokevirtual 92, 3) := by decide +kernel
theorem dX0_unload_16 : decode cX0_unload 16 = .ok (.iinc 1 1, 3) := by decide +kernel
theorem dX0_unload_19 : decode cX0_unload 19 = .ok (.goto (-17), 3) := by decide +kernel
theorem dX0_unload_22 : decode cX0_unload 22 = .ok (.return_, 1) := by decide +kernel
theorem dX0_becomeLike_0 : decode cX0_becomeLike 0 = .ok (.aload_n 0, 1) := by decide +kernel
theorem dX0_becomeLike_1 : decode cX0_becomeLike 1 = .ok (.aload_n 1, 1) := by decide +kernel
theorem dX0_becomeLike_2 : decode cX0_becomeLike 2 = .ok (.getfield 56, 3) := by decide +kernel
theorem dX0_becomeLike_5 : decode cX0_becomeLike 5 = .ok (.putfield 56, 3) := by decide +kernel
theorem dX0_becomeLike_8 : decode cX0_becomeLike 8 = .ok (.aload_n 0, 1) := by decide +kernel
theorem dX0_becomeLike_9 : decode cX0_becomeLike 9 = .ok (.aload_n 1, 1) := by decide +kernel
theorem dX0_becomeLike_10 : decode cX0_becomeLike 10 = .ok (.getfield 21, 3) := by decide +kernel
theorem dX0_becomeLike_13 : decode cX0_becomeLike 13 = .ok (.putfield 21, 3) := by decide +kernel
theorem dX0_becomeLike_16 : decode cX0_becomeLike 16 = .ok (.aload_n 0, 1) := by decide +kernel
theorem dX0_becomeLike_17 : decode cX0_becomeLike 17 = .ok (.aload_n 1, 1) := by decide +kernel
theorem dX0_becomeLike_18 : decode cX0_becomeLike 18 = .ok (.getfield 25, 3) := by decide +kernel
theorem dX0_becomeLike_21 : decode cX0_becomeLike 21 = .ok (.putfield 25, 3) := by decide +kernel
theorem dX0_becomeLike_24 : decode cX0_becomeLike 24 = .ok (.aload_n 0, 1) := by decide +kernel
theorem dX0_becomeLike_25 : decode cX0_becomeLike 25 = .ok (.aload_n 1, 1) := by decide +kernel
theorem dX0_becomeLike_26 : decode cX0_becomeLike 26 = .ok (.getfield 28, 3) := by decide +kernel
theorem dX0_becomeLike_29 : decode cX0_becomeLike 29 = .ok (.putfield 28, 3) := by decide +kernel
theorem dX0_becomeLike_32 : decode cX0_becomeLike 32 = .ok (.aload_n 0, 1) := by decide +kernel
theorem dX0_becomeLike_33 : decode cX0_becomeLike 33 = .ok (.aload_n 1, 1) := by decide +kernel
theorem dX0_becomeLike_34 : decode cX0_becomeLike 34 = .ok (.getfield 31, 3) := by decide +kernel
theorem dX0_becomeLike_37 : decode cX0_becomeLike 37 = .ok (.putfield 31, 3) := by decide +kernel
theorem dX0_becomeLike_40 : decode cX0_becomeLike 40 = .ok (.aload_n 0, 1) := by decide +kernel
theorem dX0_becomeLike_41 : decode cX0_becomeLike 41 = .ok (.aload_n 1, 1) := by decide +kernel
theorem dX0_becomeLike_42 : decode cX0_becomeLike 42 = .ok (.getfield 34, 3) := by decide +kernel
theorem dX0_becomeLike_45 : decode cX0_becomeLike 45 = .ok (.putfield 34, 3) := by decide +kernel
theorem dX0_becomeLike_48 : decode cX0_becomeLike 48 = .ok (.aload_n 0, 1) := by decide +kernel
theorem dX0_becomeLike_49 : decode cX0_becomeLike 49 = .ok (.aload_n 1, 1) := by decide +kernel
theorem dX0_becomeLike_50 : decode cX0_becomeLike 50 = .ok (.getfield 37, 3) := by decide +kernel
theorem dX0_becomeLike_53 : decode cX0_becomeLike 53 = .ok (.putfield 37, 3) := by decide +kernel
theorem dX0_becomeLike_56 : decode cX0_becomeLike 56 = .ok (.aload_n 0, 1) := by decide +kernel
theorem dX0_becomeLike_57 : decode cX0_becomeLike 57 = .ok (.aload_n 1, 1) := by decide +kernel
theorem dX0_becomeLike_58 : decode cX0_becomeLike 58 = .ok (.getfield 40, 3) := by decide +kernel
theorem dX0_becomeLike_61 : decode cX0_becomeLike 61 = .ok (.putfield 40, 3) := by decide +kernel
theorem dX0_becomeLike_64 : decode cX0_becomeLike 64 = .ok (.iconst 0, 1) := by decide +kernel
theorem dX0_becomeLike_65 : decode cX0_becomeLike 65 = .ok (.istore_n 2, 1) := by decide +kernel
theorem dX0_becomeLike_66 : decode cX0_becomeLike 66 = .ok (.iload_n 2, 1) := by decide +kernel
theorem dX0_becomeLike_67 : decode cX0_becomeLike 67 = .ok (.iconst 4, 1) := by decide +kernel
theorem dX0_becomeLike_68 : decode cX0_becomeLike 68 = .ok (.if_icmp .ge 24, 3) := by decide +kernel
theorem dX0_becomeLike_71 : decode cX0_becomeLike 71 = .ok (.aload_n 0, 1) := by decide +kernel
theorem dX0_becomeLike_72 : decode cX0_becomeLike 72 = .ok (.getfield 11, 3) := by decide +kernel
theorem dX0_becomeLike_75 : decode cX0_becomeLike 75 = .ok (.iload_n 2, 1) := by decide +kernel
theorem dX0_becomeLike_76 : decode cX0_becomeLike 76 = .ok (.aaload, 1) := by decide +kernel
theorem dX0_becomeLike_77 : decode cX0_becomeLike 77 = .ok (.aload_n 1, 1) := by decide +kernel
theorem dX0_becomeLike_78 : decode cX0_becomeLike 78 = .ok (.getfield 11, 3) := by decide +kernel
theorem dX0_becomeLike_81 : decode cX0_becomeLike 81 = .ok (.iload_n 2, 1) := by decide +kernel
theorem dX0_becomeLike_82 : decode cX0_becomeLike 82 = .ok (.aaload, 1) := by decide +kernel
theorem dX0_becomeLike_83 : decode cX0_becomeLike 83 = .ok (.invokevirtual 95, 3) := by decide +kernel
theorem dX0_becomeLike_86 : decode cX0_becomeLike 86 = .ok (.iinc 2 1, 3) := by decide +kernel
theorem dX0_becomeLike_89 : decode cX0_becomeLike 89 = .ok (.goto (-23), 3) := by decide +kernel
theorem dX0_becomeLike_92 : decode cX0_becomeLike 92 = .ok (.return_, 1) := by decide +kernel
theorem dX1_init_0 : decode cX1_init 0 = .ok (.aload_n 0, 1) := by decide +kernel
theorem dX1_init_1 : decode cX1_init 1 = .ok (.invokespecial 3, 3) := by decide +kernel
theorem dX1_init_4 : decode cX1_init 4 = .ok (.aload_n 0, 1) := by decide +kernel
theorem dX1_init_5 : decode cX1_init 5 = .ok (.bipush 8, 2) := by decide +kernel
theorem dX1_init_7 : decode cX1_init 7 = .ok (.newarray .int, 2) := by decide +kernel
theorem dX1_init_9 : decode cX1_init 9 = .ok (.putfield 9, 3) := by decide +kernel
theorem dX1_init_12 : decode cX1_init 12 = .ok (.aload_n 0, 1) := by decide +kernel
theorem dX1_init_13 : decode cX1_init 13 = .ok (.bipush 8, 2) := by decide +kernel
theorem dX1_init_15 : decode cX1_init 15 = .ok (.newarray .int, 2) := by decide +kernel
theorem dX1_init_17 : decode cX1_init 17 = .ok (.putfield 15, 3) := by decide +kernel
theorem dX1_init_20 : decode cX1_init 20 = .ok (.aload_n 0, 1) := by decide +kernel
theorem dX1_init_21 : decode cX1_init 21 = .ok (.iconst 0, 1) := by decide +kernel
theorem dX1_init_22 : decode cX1_init 22 = .ok (.putfield 18, 3) := by decide +kernel
theorem dX1_init_25 : decode cX1_init 25 = .ok (.aload_n 0, 1) := by decide +kernel
theorem dX1_init_26 : decode cX1_init 26 = .ok (.iconst 0, 1) := by decide +kernel
theorem dX1_init_27 : decode cX1_init 27 = .ok (.putfield 22, 3) := by decide +kernel
theorem dX1_init_30 : decode cX1_init 30 = .ok (.return_, 1) := by decide +kernel
theorem dX1_beginHour_0 : decode cX1_beginHour 0 = .ok (.aload_n 0, 1) := by decide +kernel
theorem dX1_beginHour_1 : decode cX1_beginHour 1 = .ok (.getfield 15, 3) := by decide +kernel
theorem dX1_beginHour_4 : decode cX1_beginHour 4 = .ok (.iconst 0, 1) := by decide +kernel
theorem dX1_beginHour_5 : decode cX1_beginHour 5 = .ok (.invokestatic 25, 3) := by decide +kernel
theorem dX1_beginHour_8 : decode cX1_beginHour 8 = .ok (.return_, 1) := by decide +kernel
theorem dX1_putIn_0 : decode cX1_putIn 0 = .ok (.aload_n 0, 1) := by decide +kernel
theorem dX1_putIn_1 : decode cX1_putIn 1 = .ok (.getfield 9, 3) := by decide +kernel
theorem dX1_putIn_4 : decode cX1_putIn 4 = .ok (.aload_n 1, 1) := by decide +kernel
theorem dX1_putIn_5 : decode cX1_putIn 5 = .ok (.getfield 31, 3) := by decide +kernel
theorem dX1_putIn_8 : decode cX1_putIn 8 = .ok (.dup2, 1) := by decide +kernel
theorem dX1_putIn_9 : decode cX1_putIn 9 = .ok (.iaload, 1) := by decide +kernel
theorem dX1_putIn_10 : decode cX1_putIn 10 = .ok (.iload_n 2, 1) := by decide +kernel
theorem dX1_putIn_11 : decode cX1_putIn 11 = .ok (.isub, 1) := by decide +kernel
theorem dX1_putIn_12 : decode cX1_putIn 12 = .ok (.iastore, 1) := by decide +kernel
theorem dX1_putIn_13 : decode cX1_putIn 13 = .ok (.aload_n 1, 1) := by decide +kernel
theorem dX1_putIn_14 : decode cX1_putIn 14 = .ok (.dup, 1) := by decide +kernel
theorem dX1_putIn_15 : decode cX1_putIn 15 = .ok (.getfield 36, 3) := by decide +kernel
theorem dX1_putIn_18 : decode cX1_putIn 18 = .ok (.iload_n 2, 1) := by decide +kernel
theorem dX1_putIn_19 : decode cX1_putIn 19 = .ok (.iadd, 1) := by decide +kernel
theorem dX1_putIn_20 : decode cX1_putIn 20 = .ok (.putfield 36, 3) := by decide +kernel
theorem dX1_putIn_23 : decode cX1_putIn 23 = .ok (.aload_n 0, 1) := by decide +kernel
theorem dX1_putIn_24 : decode cX1_putIn 24 = .ok (.dup, 1) := by decide +kernel
theorem dX1_putIn_25 : decode cX1_putIn 25 = .ok (.getfield 18, 3) := by decide +kernel
theorem dX1_putIn_28 : decode cX1_putIn 28 = .ok (.iload_n 2, 1) := by decide +kernel
theorem dX1_putIn_29 : decode cX1_putIn 29 = .ok (.iadd, 1) := by decide +kernel
theorem dX1_putIn_30 : decode cX1_putIn 30 = .ok (.putfield 18, 3) := by decide +kernel
theorem dX1_putIn_33 : decode cX1_putIn 33 = .ok (.return_, 1) := by decide +kernel
theorem dX1_giveByGang_0 : decode cX1_giveByGang 0 = .ok (.iload_n 3, 1) := by decide +kernel
theorem dX1_giveByGang_1 : decode cX1_giveByGang 1 = .ok (.aload_n 0, 1) := by decide +kernel
theorem dX1_giveByGang_2 : decode cX1_giveByGang 2 = .ok (.getfield 15, 3) := by decide +kernel
theorem dX1_giveByGang_5 : decode cX1_giveByGang 5 = .ok (.aload_n 1, 1) := by decide +kernel
theorem dX1_giveByGang_6 : decode cX1_giveByGang 6 = .ok (.getfield 31, 3) := by decide +kernel
theorem dX1_giveByGang_9 : decode cX1_giveByGang 9 = .ok (.iaload, 1) := by decide +kernel
theorem dX1_giveByGang_10 : decode cX1_giveByGang 10 = .ok (.isub, 1) := by decide +kernel
theorem dX1_giveByGang_11 : decode cX1_giveByGang 11 = .ok (.istore 4, 2) := by decide +kernel
theorem dX1_giveByGang_13 : decode cX1_giveByGang 13 = .ok (.iload_n 2, 1) := by decide +kernel
theorem dX1_giveByGang_14 : decode cX1_giveByGang 14 = .ok (.aload_n 0, 1) := by decide +kernel
theorem dX1_giveByGang_15 : decode cX1_giveByGang 15 = .ok (.getfield 9, 3) := by decide +kernel
theorem dX1_giveByGang_18 : decode cX1_giveByGang 18 = .ok (.aload_n 1, 1) := by decide +kernel
theorem dX1_giveByGang_19 : decode cX1_giveByGang 19 = .ok (.getfield 31, 3) := by decide +kernel
theorem dX1_giveByGang_22 : decode cX1_giveByGang 22 = .ok (.iaload, 1) := by decide +kernel
theorem dX1_giveByGang_23 : decode cX1_giveByGang 23 = .ok (.iload 4, 2) := by decide +kernel
theorem dX1_giveByGang_25 : decode cX1_giveByGang 25 = .ok (.invokestatic 39, 3) := by decide +kernel
theorem dX1_giveByGang_28 : decode cX1_giveByGang 28 = .ok (.invokestatic 39, 3) := by decide +kernel
theorem dX1_giveByGang_31 : decode cX1_giveByGang 31 = .ok (.istore 5, 2) := by decide +kernel
theorem dX1_giveByGang_33 : decode cX1_giveByGang 33 = .ok (.aload_n 0, 1) := by decide +kernel
theorem dX1_giveByGang_34 : decode cX1_giveByGang 34 = .ok (.getfield 15, 3) := by decide +kernel
theorem dX1_giveByGang_37 : decode cX1_giveByGang 37 = .ok (.aload_n 1, 1) := by decide +kernel
theorem dX1_giveByGang_38 : decode cX1_giveByGang 38 = .ok (.getfield 31, 3) := by decide +kernel
theorem dX1_giveByGang_41 : decode cX1_giveByGang 41 = .ok (.dup2, 1) := by decide +kernel
theorem dX1_giveByGang_42 : decode cX1_giveByGang 42 = .ok (.iaload, 1) := by decide +kernel
theorem dX1_giveByGang_43 : decode cX1_giveByGang 43 = .ok (.iload 5, 2) := by decide +kernel
theorem dX1_giveByGang_45 : decode cX1_giveByGang 45 = .ok (.iadd, 1) := by decide +kernel
theorem dX1_giveByGang_46 : decode cX1_giveByGang 46 = .ok (.iastore, 1) := by decide +kernel
theorem dX1_giveByGang_47 : decode cX1_giveByGang 47 = .ok (.aload_n 0, 1) := by decide +kernel
theorem dX1_giveByGang_48 : decode cX1_giveByGang 48 = .ok (.aload_n 1, 1) := by decide +kernel
theorem dX1_giveByGang_49 : decode cX1_giveByGang 49 = .ok (.iload 5, 2) := by decide +kernel
theorem dX1_giveByGang_51 : decode cX1_giveByGang 51 = .ok (.invokevirtual 45, 3) := by decide +kernel
theorem dX1_giveByGang_54 : decode cX1_giveByGang 54 = .ok (.aload_n 1, 1) := by decide +kernel
theorem dX1_giveByGang_55 : decode cX1_giveByGang 55 = .ok (.dup, 1) := by decide +kernel
theorem dX1_giveByGang_56 : decode cX1_giveByGang 56 = .ok (.getfield 49, 3) := by decide +kernel
theorem dX1_giveByGang_59 : decode cX1_giveByGang 59 = .ok (.iload_n 2, 1) := by decide +kernel
theorem dX1_giveByGang_60 : decode cX1_giveByGang 60 = .ok (.iload 5, 2) := by decide +kernel
theorem dX1_giveByGang_62 : decode cX1_giveByGang 62 = .ok (.isub, 1) := by decide +kernel
theorem dX1_giveByGang_63 : decode cX1_giveByGang 63 = .ok (.iadd, 1) := by decide +kernel
theorem dX1_giveByGang_64 : decode cX1_giveByGang 64 = .ok (.putfield 49, 3) := by decide +kernel
theorem dX1_giveByGang_67 : decode cX1_giveByGang 67 = .ok (.iload 5, 2) := by decide +kernel
theorem dX1_giveByGang_69 : decode cX1_giveByGang 69 = .ok (.ireturn, 1) := by decide +kernel
theorem dX1_becomeLike_0 : decode cX1_becomeLike 0 = .ok (.aload_n 1, 1) := by decide +kernel
theorem dX1_becomeLike_1 : decode cX1_becomeLike 1 = .ok (.getfield 9, 3) := by decide +kernel
theorem dX1_becomeLike_4 : decode cX1_becomeLike 4 = .ok (.iconst 0, 1) := by decide +kernel
theorem dX1_becomeLike_5 : decode cX1_becomeLike 5 = .ok (.aload_n 0, 1) := by decide +kernel
theorem dX1_becomeLike_6 : decode cX1_becomeLike 6 = .ok (.getfield 9, 3) := by decide +kernel
theorem dX1_becomeLike_9 : decode cX1_becomeLike 9 = .ok (.iconst 0, 1) := by decide +kernel
theorem dX1_becomeLike_10 : decode cX1_becomeLike 10 = .ok (.bipush 8, 2) := by decide +kernel
theorem dX1_becomeLike_12 : decode cX1_becomeLike 12 = .ok (.invokestatic 52, 3) := by decide +kernel
theorem dX1_becomeLike_15 : decode cX1_becomeLike 15 = .ok (.return_, 1) := by decide +kernel
theorem dX2_init_0 : decode cX2_init 0 = .ok (.aload_n 0, 1) := by decide +kernel
theorem dX2_init_1 : decode cX2_init 1 = .ok (.invokespecial 3, 3) := by decide +kernel
theorem dX2_init_4 : decode cX2_init 4 = .ok (.aload_n 0, 1) := by decide +kernel
theorem dX2_init_5 : decode cX2_init 5 = .ok (.bipush 48, 2) := by decide +kernel
theorem dX2_init_7 : decode cX2_init 7 = .ok (.newarray .int, 2) := by decide +kernel
theorem dX2_init_9 : decode cX2_init 9 = .ok (.putfield 9, 3) := by decide +kernel
theorem dX2_init_12 : decode cX2_init 12 = .ok (.aload_n 0, 1) := by decide +kernel
theorem dX2_init_13 : decode cX2_init 13 = .ok (.iconst 0, 1) := by decide +kernel
theorem dX2_init_14 : decode cX2_init 14 = .ok (.putfield 15, 3) := by decide +kernel
theorem dX2_init_17 : decode cX2_init 17 = .ok (.return_, 1) := by decide +kernel
theorem dX2_put_0 : decode cX2_put 0 = .ok (.aload_n 0, 1) := by decide +kernel
theorem dX2_put_1 : decode cX2_put 1 = .ok (.getfield 15, 3) := by decide +kernel
theorem dX2_put_4 : decode cX2_put 4 = .ok (.ifCond .ne 16, 3) := by decide +kernel
theorem dX2_put_7 : decode cX2_put 7 = .ok (.aload_n 0, 1) := by decide +kernel
theorem dX2_put_8 : decode cX2_put 8 = .ok (.getfield 9, 3) := by decide +kernel
theorem dX2_put_11 : decode cX2_put 11 = .ok (.iconst 0, 1) := by decide +kernel
theorem dX2_put_12 : decode cX2_put 12 = .ok (.invokestatic 19, 3) := by decide +kernel
theorem dX2_put_15 : decode cX2_put 15 = .ok (.aload_n 0, 1) := by decide +kernel
theorem dX2_put_16 : decode cX2_put 16 = .ok (.iconst 1, 1) := by decide +kernel
theorem dX2_put_17 : decode cX2_put 17 = .ok (.putfield 15, 3) := by decide +kernel
theorem dX2_put_20 : decode cX2_put 20 = .ok (.aload_n 0, 1) := by decide +kernel
theorem dX2_put_21 : decode cX2_put 21 = .ok (.getfield 9, 3) := by decide +kernel
theorem dX2_put_24 : decode cX2_put 24 = .ok (.iload_n 1, 1) := by decide +kernel
theorem dX2_put_25 : decode cX2_put 25 = .ok (.iload_n 2, 1) := by decide +kernel
theorem dX2_put_26 : decode cX2_put 26 = .ok (.iastore, 1) := by decide +kernel
theorem dX2_put_27 : decode cX2_put 27 = .ok (.return_, 1) := by decide +kernel
theorem dX3_init_0 : decode cX3_init 0 = .ok (.aload_n 0, 1) := by decide +kernel
theorem dX3_init_1 : decode cX3_init 1 = .ok (.invokespecial 1, 3) := by decide +kernel
theorem dX3_init_4 : decode cX3_init 4 = .ok (.aload_n 0, 1) := by decide +kernel
theorem dX3_init_5 : decode cX3_init 5 = .ok (.iconst 3, 1) := by decide +kernel
theorem dX3_init_6 : decode cX3_init 6 = .ok (.newarray .int, 2) := by decide +kernel
theorem dX3_init_8 : decode cX3_init 8 = .ok (.putfield 9, 3) := by decide +kernel
theorem dX3_init_11 : decode cX3_init 11 = .ok (.aload_n 0, 1) := by decide +kernel
theorem dX3_init_12 : decode cX3_init 12 = .ok (.iconst 3, 1) := by decide +kernel
theorem dX3_init_13 : decode cX3_init 13 = .ok (.newarray .int, 2) := by decide +kernel
theorem dX3_init_15 : decode cX3_init 15 = .ok (.putfield 13, 3) := by decide +kernel
theorem dX3_init_18 : decode cX3_init 18 = .ok (.aload_n 0, 1) := by decide +kernel
theorem dX3_init_19 : decode cX3_init 19 = .ok (.iconst 3, 1) := by decide +kernel
theorem dX3_init_20 : decode cX3_init 20 = .ok (.newarray .int, 2) := by decide +kernel
theorem dX3_init_22 : decode cX3_init 22 = .ok (.putfield 16, 3) := by decide +kernel
theorem dX3_init_25 : decode cX3_init 25 = .ok (.aload_n 0, 1) := by decide +kernel
theorem dX3_init_26 : decode cX3_init 26 = .ok (.iconst 0, 1) := by decide +kernel
theorem dX3_init_27 : decode cX3_init 27 = .ok (.putfield 19, 3) := by decide +kernel
theorem dX3_init_30 : decode cX3_init 30 = .ok (.aload_n 0, 1) := by decide +kernel
theorem dX3_init_31 : decode cX3_init 31 = .ok (.iconst 0, 1) := by decide +kernel
theorem dX3_init_32 : decode cX3_init 32 = .ok (.putfield 23, 3) := by decide +kernel
theorem dX3_init_35 : decode cX3_init 35 = .ok (.aload_n 0, 1) := by decide +kernel
theorem dX3_init_36 : decode cX3_init 36 = .ok (.iconst 0, 1) := by decide +kernel
theorem dX3_init_37 : decode cX3_init 37 = .ok (.putfield 27, 3) := by decide +kernel
theorem dX3_init_40 : decode cX3_init 40 = .ok (.aload_n 0, 1) := by decide +kernel
theorem dX3_init_41 : decode cX3_init 41 = .ok (.iconst 0, 1) := by decide +kernel
theorem dX3_init_42 : decode cX3_init 42 = .ok (.putfield 30, 3) := by decide +kernel
theorem dX3_init_45 : decode cX3_init 45 = .ok (.aload_n 0, 1) := by decide +kernel
theorem dX3_init_46 : decode cX3_init 46 = .ok (.iconst 0, 1) := by decide +kernel
theorem dX3_init_47 : decode cX3_init 47 = .ok (.putfield 33, 3) := by decide +kernel
theorem dX3_init_50 : decode cX3_init 50 = .ok (.return_, 1) := by decide +kernel
theorem dX3_holds_0 : decode cX3_holds 0 = .ok (.iload_n 2, 1) := by decide +kernel
theorem dX3_holds_1 : decode cX3_holds 1 = .ok (.aload_n 0, 1) := by decide +kernel
theorem dX3_holds_2 : decode cX3_holds 2 = .ok (.getfield 30, 3) := by decide +kernel
theorem dX3_holds_5 : decode cX3_holds 5 = .ok (.if_icmp .lt 11, 3) := by decide +kernel
theorem dX3_holds_8 : decode cX3_holds 8 = .ok (.iload_n 2, 1) := by decide +kernel
theorem dX3_holds_9 : decode cX3_holds 9 = .ok (.aload_n 0, 1) := by decide +kernel
theorem dX3_holds_10 : decode cX3_holds 10 = .ok (.getfield 33, 3) := by decide +kernel
theorem dX3_holds_13 : decode cX3_holds 13 = .ok (.if_icmp .lt 5, 3) := by decide +kernel
theorem dX3_holds_16 : decode cX3_holds 16 = .ok (.iconst 0, 1) := by decide +kernel
theorem dX3_holds_17 : decode cX3_holds 17 = .ok (.ireturn, 1) := by decide +kernel
theorem dX3_holds_18 : decode cX3_holds 18 = .ok (.iconst 0, 1) := by decide +kernel
theorem dX3_holds_19 : decode cX3_holds 19 = .ok (.istore_n 3, 1) := by decide +kernel
theorem dX3_holds_20 : decode cX3_holds 20 = .ok (.iload_n 3, 1) := by decide +kernel
theorem dX3_holds_21 : decode cX3_holds 21 = .ok (.aload_n 0, 1) := by decide +kernel
theorem dX3_holds_22 : decode cX3_holds 22 = .ok (.getfield 27, 3) := by decide +kernel
theorem dX3_holds_25 : decode cX3_holds 25 = .ok (.if_icmp .ge 37, 3) := by decide +kernel
theorem dX3_holds_28 : decode cX3_holds 28 = .ok (.aload_n 1, 1) := by decide +kernel
theorem dX3_holds_29 : decode cX3_holds 29 = .ok (.aload_n 0, 1) := by decide +kernel
theorem dX3_holds_30 : decode cX3_holds 30 = .ok (.getfield 9, 3) := by decide +kernel
theorem dX3_holds_33 : decode cX3_holds 33 = .ok (.iload_n 3, 1) := by decide +kernel
theorem dX3_holds_34 : decode cX3_holds 34 = .ok (.iaload, 1) := by decide +kernel
theorem dX3_holds_35 : decode cX3_holds 35 = .ok (.iaload, 1) := by decide +kernel
theorem dX3_holds_36 : decode cX3_holds 36 = .ok (.aload_n 0, 1) := by decide +kernel
theorem dX3_holds_37 : decode cX3_holds 37 = .ok (.getfield 13, 3) := by decide +kernel
theorem dX3_holds_40 : decode cX3_holds 40 = .ok (.iload_n 3, 1) := by decide +kernel
theorem dX3_holds_41 : decode cX3_holds 41 = .ok (.iaload, 1) := by decide +kernel
theorem dX3_holds_42 : decode cX3_holds 42 = .ok (.aload_n 0, 1) := by decide +kernel
theorem dX3_holds_43 : decode cX3_holds 43 = .ok (.getfield 16, 3) := by decide +kernel
theorem dX3_holds_46 : decode cX3_holds 46 = .ok (.iload_n 3, 1) := by decide +kernel
theorem dX3_holds_47 : decode cX3_holds 47 = .ok (.iaload, 1) := by decide +kernel
theorem dX3_holds_48 : decode cX3_holds 48 = .ok (.invokestatic 36, 3) := by decide +kernel
theorem dX3_holds_51 : decode cX3_holds 51 = .ok (.ifCond .ne 5, 3) := by decide +kernel
theorem dX3_holds_54 : decode cX3_holds 54 = .ok (.iconst 0, 1) := by decide +kernel
theorem dX3_holds_55 : decode cX3_holds 55 = .ok (.ireturn, 1) := by decide +kernel
theorem dX3_holds_56 : decode cX3_holds 56 = .ok (.iinc 3 1, 3) := by decide +kernel
theorem dX3_holds_59 : decode cX3_holds 59 = .ok (.goto (-39), 3) := by decide +kernel
theorem dX3_holds_62 : decode cX3_holds 62 = .ok (.iconst 1, 1) := by decide +kernel
theorem dX3_holds_63 : decode cX3_holds 63 = .ok (.ireturn, 1) := by decide +kernel
theorem dX3_isSo_0 : decode cX3_isSo 0 = .ok (.iload_n 1, 1) := by decide +kernel
theorem dX3_isSo_1 : decode cX3_isSo 1 = .ok (.lookupswitch 49 #[(60, 27), (62, 38)], 27) := by decide +kernel
theorem dX3_isSo_28 : decode cX3_isSo 28 = .ok (.iload_n 0, 1) := by decide +kernel
theorem dX3_isSo_29 : decode cX3_isSo 29 = .ok (.iload_n 2, 1) := by decide +kernel
theorem dX3_isSo_30 : decode cX3_isSo 30 = .ok (.if_icmp .ge 7, 3) := by decide +kernel
theorem dX3_isSo_33 : decode cX3_isSo 33 = .ok (.iconst 1, 1) := by decide +kernel
theorem dX3_isSo_34 : decode cX3_isSo 34 = .ok (.goto 4, 3) := by decide +kernel
theorem dX3_isSo_37 : decode cX3_isSo 37 = .ok (.iconst 0, 1) := by decide +kernel
theorem dX3_isSo_38 : decode cX3_isSo 38 = .ok (.ireturn, 1) := by decide +kernel
theorem dX3_isSo_39 : decode cX3_isSo 39 = .ok (.iload_n 0, 1) := by decide +kernel
theorem dX3_isSo_40 : decode cX3_isSo 40 = .ok (.iload_n 2, 1) := by decide +kernel
theorem dX3_isSo_41 : decode cX3_isSo 41 = .ok (.if_icmp .le 7, 3) := by decide +kernel
theorem dX3_isSo_44 : decode cX3_isSo 44 = .ok (.iconst 1, 1) := by decide +kernel
theorem dX3_isSo_45 : decode cX3_isSo 45 = .ok (.goto 4, 3) := by decide +kernel
theorem dX3_isSo_48 : decode cX3_isSo 48 = .ok (.iconst 0, 1) := by decide +kernel
theorem dX3_isSo_49 : decode cX3_isSo 49 = .ok (.ireturn, 1) := by decide +kernel
theorem dX3_isSo_50 : decode cX3_isSo 50 = .ok (.iload_n 0, 1) := by decide +kernel
theorem dX3_isSo_51 : decode cX3_isSo 51 = .ok (.iload_n 2, 1) := by decide +kernel
theorem dX3_isSo_52 : decode cX3_isSo 52 = .ok (.if_icmp .ne 7, 3) := by decide +kernel
theorem dX3_isSo_55 : decode cX3_isSo 55 = .ok (.iconst 1, 1) := by decide +kernel
theorem dX3_isSo_56 : decode cX3_isSo 56 = .ok (.goto 4, 3) := by decide +kernel
theorem dX3_isSo_59 : decode cX3_isSo 59 = .ok (.iconst 0, 1) := by decide +kernel
theorem dX3_isSo_60 : decode cX3_isSo 60 = .ok (.ireturn, 1) := by decide +kernel
theorem dX4_init_0 : decode cX4_init 0 = .ok (.aload_n 0, 1) := by decide +kernel
theorem dX4_init_1 : decode cX4_init 1 = .ok (.invokespecial 3, 3) := by decide +kernel
theorem dX4_init_4 : decode cX4_init 4 = .ok (.aload_n 0, 1) := by decide +kernel
theorem dX4_init_5 : decode cX4_init 5 = .ok (.bipush 48, 2) := by decide +kernel
theorem dX4_init_7 : decode cX4_init 7 = .ok (.newarray .int, 2) := by decide +kernel
theorem dX4_init_9 : decode cX4_init 9 = .ok (.putfield 9, 3) := by decide +kernel
theorem dX4_init_12 : decode cX4_init 12 = .ok (.aload_n 0, 1) := by decide +kernel
theorem dX4_init_13 : decode cX4_init 13 = .ok (.bipush 48, 2) := by decide +kernel
theorem dX4_init_15 : decode cX4_init 15 = .ok (.newarray .int, 2) := by decide +kernel
theorem dX4_init_17 : decode cX4_init 17 = .ok (.putfield 15, 3) := by decide +kernel
theorem dX4_init_20 : decode cX4_init 20 = .ok (.aload_n 0, 1) := by decide +kernel
theorem dX4_init_21 : decode cX4_init 21 = .ok (.bipush 24, 2) := by decide +kernel
theorem dX4_init_23 : decode cX4_init 23 = .ok (.newarray .int, 2) := by decide +kernel
theorem dX4_init_25 : decode cX4_init 25 = .ok (.putfield 18, 3) := by decide +kernel
theorem dX4_init_28 : decode cX4_init 28 = .ok (.aload_n 0, 1) := by decide +kernel
theorem dX4_init_29 : decode cX4_init 29 = .ok (.bipush 24, 2) := by decide +kernel
theorem dX4_init_31 : decode cX4_init 31 = .ok (.newarray .int, 2) := by decide +kernel
theorem dX4_init_33 : decode cX4_init 33 = .ok (.putfield 21, 3) := by decide +kernel
theorem dX4_init_36 : decode cX4_init 36 = .ok (.aload_n 0, 1) := by decide +kernel
theorem dX4_init_37 : decode cX4_init 37 = .ok (.bipush 100, 2) := by decide +kernel
theorem dX4_init_39 : decode cX4_init 39 = .ok (.putfield 24, 3) := by decide +kernel
theorem dX4_init_42 : decode cX4_init 42 = .ok (.aload_n 0, 1) := by decide +kernel
theorem dX4_init_43 : decode cX4_init 43 = .ok (.iconst 0, 1) := by decide +kernel
theorem dX4_init_44 : decode cX4_init 44 = .ok (.putfield 28, 3) := by decide +kernel
theorem dX4_init_47 : decode cX4_init 47 = .ok (.aload_n 0, 1) := by decide +kernel
theorem dX4_init_48 : decode cX4_init 48 = .ok (.iconst 0, 1) := by decide +kernel
theorem dX4_init_49 : decode cX4_init 49 = .ok (.putfield 31, 3) := by decide +kernel
theorem dX4_init_52 : decode cX4_init 52 = .ok (.aload_n 0, 1) := by decide +kernel
theorem dX4_init_53 : decode cX4_init 53 = .ok (.iconst (-1), 1) := by decide +kernel
theorem dX4_init_54 : decode cX4_init 54 = .ok (.putfield 34, 3) := by decide +kernel
theorem dX4_init_57 : decode cX4_init 57 = .ok (.aload_n 0, 1) := by decide +kernel
theorem dX4_init_58 : decode cX4_init 58 = .ok (.getfield 9, 3) := by decide +kernel
theorem dX4_init_61 : decode cX4_init 61 = .ok (.sipush (-9999), 3) := by decide +kernel
theorem dX4_init_64 : decode cX4_init 64 = .ok (.invokestatic 37, 3) := by decide +kernel
theorem dX4_init_67 : decode cX4_init 67 = .ok (.aload_n 0, 1) := by decide +kernel
theorem dX4_init_68 : decode cX4_init 68 = .ok (.getfield 15, 3) := by decide +kernel
theorem dX4_init_71 : decode cX4_init 71 = .ok (.sipush 150, 3) := by decide +kernel
theorem dX4_init_74 : decode cX4_init 74 = .ok (.invokestatic 37, 3) := by decide +kernel
theorem dX4_init_77 : decode cX4_init 77 = .ok (.return_, 1) := by decide +kernel
theorem dX4_weatherIn_0 : decode cX4_weatherIn 0 = .ok (.aload_n 0, 1) := by decide +kernel
theorem dX4_weatherIn_1 : decode cX4_weatherIn 1 = .ok (.getfield 15, 3) := by decide +kernel
theorem dX4_weatherIn_4 : decode cX4_weatherIn 4 = .ok (.iload_n 1, 1) := by decide +kernel
theorem dX4_weatherIn_5 : decode cX4_weatherIn 5 = .ok (.bipush 48, 2) := by decide +kernel
theorem dX4_weatherIn_7 : decode cX4_weatherIn 7 = .ok (.invokestatic 43, 3) := by decide +kernel
theorem dX4_weatherIn_10 : decode cX4_weatherIn 10 = .ok (.iaload, 1) := by decide +kernel
theorem dX4_weatherIn_11 : decode cX4_weatherIn 11 = .ok (.ireturn, 1) := by decide +kernel
theorem dX4_closeGaps_0 : decode cX4_closeGaps 0 = .ok (.sipush 150, 3) := by decide +kernel
theorem dX4_closeGaps_3 : decode cX4_closeGaps 3 = .ok (.istore_n 1, 1) := by decide +kernel
theorem dX4_closeGaps_4 : decode cX4_closeGaps 4 = .ok (.iconst 0, 1) := by decide +kernel
theorem dX4_closeGaps_5 : decode cX4_closeGaps 5 = .ok (.istore_n 2, 1) := by decide +kernel
theorem dX4_closeGaps_6 : decode cX4_closeGaps 6 = .ok (.iload_n 2, 1) := by decide +kernel
theorem dX4_closeGaps_7 : decode cX4_closeGaps 7 = .ok (.bipush 48, 2) := by decide +kernel
theorem dX4_closeGaps_9 : decode cX4_closeGaps 9 = .ok (.if_icmp .ge 32, 3) := by decide +kernel
theorem dX4_closeGaps_12 : decode cX4_closeGaps 12 = .ok (.aload_n 0, 1) := by decide +kernel
theorem dX4_closeGaps_13 : decode cX4_closeGaps 13 = .ok (.getfield 9, 3) := by decide +kernel
theorem dX4_closeGaps_16 : decode cX4_closeGaps 16 = .ok (.iload_n 2, 1) := by decide +kernel
theorem dX4_closeGaps_17 : decode cX4_closeGaps 17 = .ok (.iaload, 1) := by decide +kernel
theorem dX4_closeGaps_18 : decode cX4_closeGaps 18 = .ok (.sipush (-9999), 3) := by decide +kernel
theorem dX4_closeGaps_21 : decode cX4_closeGaps 21 = .ok (.if_icmp .ne 7, 3) := by decide +kernel
theorem dX4_closeGaps_24 : decode cX4_closeGaps 24 = .ok (.iload_n 1, 1) := by decide +kernel
theorem dX4_closeGaps_25 : decode cX4_closeGaps 25 = .ok (.goto 9, 3) := by decide +kernel
theorem dX4_closeGaps_28 : decode cX4_closeGaps 28 = .ok (.aload_n 0, 1) := by decide +kernel
theorem dX4_closeGaps_29 : decode cX4_closeGaps 29 = .ok (.getfield 9, 3) := by decide +kernel
theorem dX4_closeGaps_32 : decode cX4_closeGaps 32 = .ok (.iload_n 2, 1) := by decide +kernel
theorem dX4_closeGaps_33 : decode cX4_closeGaps 33 = .ok (.iaload, 1) := by decide +kernel
theorem dX4_closeGaps_34 : decode cX4_closeGaps 34 = .ok (.istore_n 1, 1) := by decide +kernel
theorem dX4_closeGaps_35 : decode cX4_closeGaps 35 = .ok (.iinc 2 1, 3) := by decide +kernel
theorem dX4_closeGaps_38 : decode cX4_closeGaps 38 = .ok (.goto (-32), 3) := by decide +kernel
theorem dX4_closeGaps_41 : decode cX4_closeGaps 41 = .ok (.iconst 0, 1) := by decide +kernel
theorem dX4_closeGaps_42 : decode cX4_closeGaps 42 = .ok (.istore_n 2, 1) := by decide +kernel
theorem dX4_closeGaps_43 : decode cX4_closeGaps 43 = .ok (.iload_n 2, 1) := by decide +kernel
theorem dX4_closeGaps_44 : decode cX4_closeGaps 44 = .ok (.bipush 48, 2) := by decide +kernel
theorem dX4_closeGaps_46 : decode cX4_closeGaps 46 = .ok (.if_icmp .ge 39, 3) := by decide +kernel
theorem dX4_closeGaps_49 : decode cX4_closeGaps 49 = .ok (.aload_n 0, 1) := by decide +kernel
theorem dX4_closeGaps_50 : decode cX4_closeGaps 50 = .ok (.getfield 9, 3) := by decide +kernel
theorem dX4_closeGaps_53 : decode cX4_closeGaps 53 = .ok (.iload_n 2, 1) := by decide +kernel
theorem dX4_closeGaps_54 : decode cX4_closeGaps 54 = .ok (.iaload, 1) := by decide +kernel
theorem dX4_closeGaps_55 : decode cX4_closeGaps 55 = .ok (.sipush (-9999), 3) := by decide +kernel
theorem dX4_closeGaps_58 : decode cX4_closeGaps 58 = .ok (.if_icmp .ne 7, 3) := by decide +kernel
theorem dX4_closeGaps_61 : decode cX4_closeGaps 61 = .ok (.iload_n 1, 1) := by decide +kernel
theorem dX4_closeGaps_62 : decode cX4_closeGaps 62 = .ok (.goto 9, 3) := by decide +kernel
theorem dX4_closeGaps_65 : decode cX4_closeGaps 65 = .ok (.aload_n 0, 1) := by decide +kernel
theorem dX4_closeGaps_66 : decode cX4_closeGaps 66 = .ok (.getfield 9, 3) := by decide +kernel
theorem dX4_closeGaps_69 : decode cX4_closeGaps 69 = .ok (.iload_n 2, 1) := by decide +kernel
theorem dX4_closeGaps_70 : decode cX4_closeGaps 70 = .ok (.iaload, 1) := by decide +kernel
theorem dX4_closeGaps_71 : decode cX4_closeGaps 71 = .ok (.istore_n 1, 1) := by decide +kernel
theorem dX4_closeGaps_72 : decode cX4_closeGaps 72 = .ok (.aload_n 0, 1) := by decide +kernel
theorem dX4_closeGaps_73 : decode cX4_closeGaps 73 = .ok (.getfield 15, 3) := by decide +kernel
theorem dX4_closeGaps_76 : decode cX4_closeGaps 76 = .ok (.iload_n 2, 1) := by decide +kernel
theorem dX4_closeGaps_77 : decode cX4_closeGaps 77 = .ok (.iload_n 1, 1) := by decide +kernel
theorem dX4_closeGaps_78 : decode cX4_closeGaps 78 = .ok (.iastore, 1) := by decide +kernel
theorem dX4_closeGaps_79 : decode cX4_closeGaps 79 = .ok (.iinc 2 1, 3) := by decide +kernel
theorem dX4_closeGaps_82 : decode cX4_closeGaps 82 = .ok (.goto (-39), 3) := by decide +kernel
theorem dX4_closeGaps_85 : decode cX4_closeGaps 85 = .ok (.return_, 1) := by decide +kernel
theorem dX4_noteSale_0 : decode cX4_noteSale 0 = .ok (.iload_n 1, 1) := by decide +kernel
theorem dX4_noteSale_1 : decode cX4_noteSale 1 = .ok (.bipush 24, 2) := by decide +kernel
theorem dX4_noteSale_3 : decode cX4_noteSale 3 = .ok (.invokestatic 43, 3) := by decide +kernel
theorem dX4_noteSale_6 : decode cX4_noteSale 6 = .ok (.istore_n 2, 1) := by decide +kernel
theorem dX4_noteSale_7 : decode cX4_noteSale 7 = .ok (.aload_n 0, 1) := by decide +kernel
theorem dX4_noteSale_8 : decode cX4_noteSale 8 = .ok (.getfield 18, 3) := by decide +kernel
theorem dX4_noteSale_11 : decode cX4_noteSale 11 = .ok (.iload_n 2, 1) := by decide +kernel
theorem dX4_noteSale_12 : decode cX4_noteSale 12 = .ok (.iaload, 1) := by decide +kernel
theorem dX4_noteSale_13 : decode cX4_noteSale 13 = .ok (.iload_n 1, 1) := by decide +kernel
theorem dX4_noteSale_14 : decode cX4_noteSale 14 = .ok (.if_icmp .eq 17, 3) := by decide +kernel
theorem dX4_noteSale_17 : decode cX4_noteSale 17 = .ok (.aload_n 0, 1) := by decide +kernel
theorem dX4_noteSale_18 : decode cX4_noteSale 18 = .ok (.getfield 18, 3) := by decide +kernel
theorem dX4_noteSale_21 : decode cX4_noteSale 21 = .ok (.iload_n 2, 1) := by decide +kernel
theorem dX4_noteSale_22 : decode cX4_noteSale 22 = .ok (.iload_n 1, 1) := by decide +kernel
theorem dX4_noteSale_23 : decode cX4_noteSale 23 = .ok (.iastore, 1) := by decide +kernel
theorem dX4_noteSale_24 : decode cX4_noteSale 24 = .ok (.aload_n 0, 1) := by decide +kernel
theorem dX4_noteSale_25 : decode cX4_noteSale 25 = .ok (.getfield 21, 3) := by decide +kernel
theorem dX4_noteSale_28 : decode cX4_noteSale 28 = .ok (.iload_n 2, 1) := by decide +kernel
theorem dX4_noteSale_29 : decode cX4_noteSale 29 = .ok (.iconst 0, 1) := by decide +kernel
theorem dX4_noteSale_30 : decode cX4_noteSale 30 = .ok (.iastore, 1) := by decide +kernel
theorem dX4_noteSale_31 : decode cX4_noteSale 31 = .ok (.aload_n 0, 1) := by decide +kernel
theorem dX4_noteSale_32 : decode cX4_noteSale 32 = .ok (.getfield 21, 3) := by decide +kernel
theorem dX4_noteSale_35 : decode cX4_noteSale 35 = .ok (.iload_n 2, 1) := by decide +kernel
theorem dX4_noteSale_36 : decode cX4_noteSale 36 = .ok (.dup2, 1) := by decide +kernel
theorem dX4_noteSale_37 : decode cX4_noteSale 37 = .ok (.iaload, 1) := by decide +kernel
theorem dX4_noteSale_38 : decode cX4_noteSale 38 = .ok (.iconst 1, 1) := by decide +kernel
theorem dX4_noteSale_39 : decode cX4_noteSale 39 = .ok (.iadd, 1) := by decide +kernel
theorem dX4_noteSale_40 : decode cX4_noteSale 40 = .ok (.iastore, 1) := by decide +kernel
theorem dX4_noteSale_41 : decode cX4_noteSale 41 = .ok (.return_, 1) := by decide +kernel
theorem dX4_salesOfLatestHours_0 : decode cX4_salesOfLatestHours 0 = .ok (.iconst 0, 1) := by decide +kernel
theorem dX4_salesOfLatestHours_1 : decode cX4_salesOfLatestHours 1 = .ok (.istore_n 2, 1) := by decide +kernel
theorem dX4_salesOfLatestHours_2 : decode cX4_salesOfLatestHours 2 = .ok (.iconst 0, 1) := by decide +kernel
theorem dX4_salesOfLatestHours_3 : decode cX4_salesOfLatestHours 3 = .ok (.istore_n 3, 1) := by decide +kernel
theorem dX4_salesOfLatestHours_4 : decode cX4_salesOfLatestHours 4 = .ok (.iload_n 3, 1) := by decide +kernel
theorem dX4_salesOfLatestHours_5 : decode cX4_salesOfLatestHours 5 = .ok (.bipush 24, 2) := by decide +kernel
theorem dX4_salesOfLatestHours_7 : decode cX4_salesOfLatestHours 7 = .ok (.if_icmp .ge 35, 3) := by decide +kernel
theorem dX4_salesOfLatestHours_10 : decode cX4_salesOfLatestHours 10 = .ok (.iload_n 2, 1) := by decide +kernel
theorem dX4_salesOfLatestHours_11 : decode cX4_salesOfLatestHours 11 = .ok (.aload_n 0, 1) := by decide +kernel
theorem dX4_salesOfLatestHours_12 : decode cX4_salesOfLatestHours 12 = .ok (.getfield 18, 3) := by decide +kernel
theorem dX4_salesOfLatestHours_15 : decode cX4_salesOfLatestHours 15 = .ok (.iload_n 3, 1) := by decide +kernel
theorem dX4_salesOfLatestHours_16 : decode cX4_salesOfLatestHours 16 = .ok (.iaload, 1) := by decide +kernel
theorem dX4_salesOfLatestHours_17 : decode cX4_salesOfLatestHours 17 = .ok (.iload_n 1, 1) := by decide +kernel
theorem dX4_salesOfLatestHours_18 : decode cX4_salesOfLatestHours 18 = .ok (.bipush 24, 2) := by decide +kernel
theorem dX4_salesOfLatestHours_20 : decode cX4_salesOfLatestHours 20 = .ok (.isub, 1) := by decide +kernel
theorem dX4_salesOfLatestHours_21 : decode cX4_salesOfLatestHours 21 = .ok (.if_icmp .le 12, 3) := by decide +kernel
theorem dX4_salesOfLatestHours_24 : decode cX4_salesOfLatestHours 24 = .ok (.aload_n 0, 1) := by decide +kernel
theorem dX4_salesOfLatestHours_25 : decode cX4_salesOfLatestHours 25 = .ok (.getfield 21, 3) := by decide +kernel
theorem dX4_salesOfLatestHours_28 : decode cX4_salesOfLatestHours 28 = .ok (.iload_n 3, 1) := by decide +kernel
theorem dX4_salesOfLatestHours_29 : decode cX4_salesOfLatestHours 29 = .ok (.iaload, 1) := by decide +kernel
theorem dX4_salesOfLatestHours_30 : decode cX4_salesOfLatestHours 30 = .ok (.goto 4, 3) := by decide +kernel
theorem dX4_salesOfLatestHours_33 : decode cX4_salesOfLatestHours 33 = .ok (.iconst 0, 1) := by decide +kernel
theorem dX4_salesOfLatestHours_34 : decode cX4_salesOfLatestHours 34 = .ok (.iadd, 1) := by decide +kernel
theorem dX4_salesOfLatestHours_35 : decode cX4_salesOfLatestHours 35 = .ok (.istore_n 2, 1) := by decide +kernel
theorem dX4_salesOfLatestHours_36 : decode cX4_salesOfLatestHours 36 = .ok (.iinc 3 1, 3) := by decide +kernel
theorem dX4_salesOfLatestHours_39 : decode cX4_salesOfLatestHours 39 = .ok (.goto (-35), 3) := by decide +kernel
theorem dX4_salesOfLatestHours_42 : decode cX4_salesOfLatestHours 42 = .ok (.iload_n 2, 1) := by decide +kernel
theorem dX4_salesOfLatestHours_43 : decode cX4_salesOfLatestHours 43 = .ok (.ireturn, 1) := by decide +kernel
theorem dX4_bringsNow_0 : decode cX4_bringsNow 0 = .ok (.aload_n 1, 1) := by decide +kernel
theorem dX4_bringsNow_1 : decode cX4_bringsNow 1 = .ok (.aload_n 0, 1) := by decide +kernel
theorem dX4_bringsNow_2 : decode cX4_bringsNow 2 = .ok (.getfield 28, 3) := by decide +kernel
theorem dX4_bringsNow_5 : decode cX4_bringsNow 5 = .ok (.invokevirtual 49, 3) := by decide +kernel
theorem dX4_bringsNow_8 : decode cX4_bringsNow 8 = .ok (.istore_n 3, 1) := by decide +kernel
theorem dX4_bringsNow_9 : decode cX4_bringsNow 9 = .ok (.bipush 100, 2) := by decide +kernel
theorem dX4_bringsNow_11 : decode cX4_bringsNow 11 = .ok (.iconst 5, 1) := by decide +kernel
theorem dX4_bringsNow_12 : decode cX4_bringsNow 12 = .ok (.aload_n 0, 1) := by decide +kernel
theorem dX4_bringsNow_13 : decode cX4_bringsNow 13 = .ok (.iload_n 2, 1) := by decide +kernel
theorem dX4_bringsNow_14 : decode cX4_bringsNow 14 = .ok (.invokevirtual 55, 3) := by decide +kernel
theorem dX4_bringsNow_17 : decode cX4_bringsNow 17 = .ok (.imul, 1) := by decide +kernel
theorem dX4_bringsNow_18 : decode cX4_bringsNow 18 = .ok (.invokestatic 58, 3) := by decide +kernel
theorem dX4_bringsNow_21 : decode cX4_bringsNow 21 = .ok (.istore 4, 2) := by decide +kernel
theorem dX4_bringsNow_23 : decode cX4_bringsNow 23 = .ok (.iload_n 3, 1) := by decide +kernel
theorem dX4_bringsNow_24 : decode cX4_bringsNow 24 = .ok (.iload_n 3, 1) := by decide +kernel
theorem dX4_bringsNow_25 : decode cX4_bringsNow 25 = .ok (.iload 4, 2) := by decide +kernel
theorem dX4_bringsNow_27 : decode cX4_bringsNow 27 = .ok (.imul, 1) := by decide +kernel
theorem dX4_bringsNow_28 : decode cX4_bringsNow 28 = .ok (.bipush 100, 2) := by decide +kernel
theorem dX4_bringsNow_30 : decode cX4_bringsNow 30 = .ok (.idiv, 1) := by decide +kernel
theorem dX4_bringsNow_31 : decode cX4_bringsNow 31 = .ok (.isub, 1) := by decide +kernel
theorem dX4_bringsNow_32 : decode cX4_bringsNow 32 = .ok (.ireturn, 1) := by decide +kernel
theorem dX5_init_0 : decode cX5_init 0 = .ok (.aload_n 0, 1) := by decide +kernel
theorem dX5_init_1 : decode cX5_init 1 = .ok (.invokespecial 3, 3) := by decide +kernel
theorem dX5_init_4 : decode cX5_init 4 = .ok (.aload_n 0, 1) := by decide +kernel
theorem dX5_init_5 : decode cX5_init 5 = .ok (.bipush 80, 2) := by decide +kernel
theorem dX5_init_7 : decode cX5_init 7 = .ok (.newarray .int, 2) := by decide +kernel
theorem dX5_init_9 : decode cX5_init 9 = .ok (.putfield 11, 3) := by decide +kernel
theorem dX5_init_12 : decode cX5_init 12 = .ok (.aload_n 0, 1) := by decide +kernel
theorem dX5_init_13 : decode cX5_init 13 = .ok (.iconst 0, 1) := by decide +kernel
theorem dX5_init_14 : decode cX5_init 14 = .ok (.putfield 15, 3) := by decide +kernel
theorem dX5_init_17 : decode cX5_init 17 = .ok (.aload_n 0, 1) := by decide +kernel
theorem dX5_init_18 : decode cX5_init 18 = .ok (.iconst 0, 1) := by decide +kernel
theorem dX5_init_19 : decode cX5_init 19 = .ok (.putfield 19, 3) := by decide +kernel
theorem dX5_init_22 : decode cX5_init 22 = .ok (.return_, 1) := by decide +kernel
theorem dX5_readRule_0 : decode cX5_readRule 0 = .ok (.aload_n 0, 1) := by decide +kernel
theorem dX5_readRule_1 : decode cX5_readRule 1 = .ok (.iconst 0, 1) := by decide +kernel
theorem dX5_readRule_2 : decode cX5_readRule 2 = .ok (.putfield 19, 3) := by decide +kernel
theorem dX5_readRule_5 : decode cX5_readRule 5 = .ok (.aload_n 1, 1) := by decide +kernel
theorem dX5_readRule_6 : decode cX5_readRule 6 = .ok (.iconst 0, 1) := by decide +kernel
theorem dX5_readRule_7 : decode cX5_readRule 7 = .ok (.putfield 22, 3) := by decide +kernel
theorem dX5_readRule_10 : decode cX5_readRule 10 = .ok (.aload_n 0, 1) := by decide +kernel
theorem dX5_readRule_11 : decode cX5_readRule 11 = .ok (.aload_n 1, 1) := by decide +kernel
theorem dX5_readRule_12 : decode cX5_readRule 12 = .ok (.invokevirtual 27, 3) := by decide +kernel
theorem dX5_readRule_15 : decode cX5_readRule 15 = .ok (.ifCond .ne 8, 3) := by decide +kernel
theorem dX5_readRule_18 : decode cX5_readRule 18 = .ok (.aload_n 0, 1) := by decide +kernel
theorem dX5_readRule_19 : decode cX5_readRule 19 = .ok (.getfield 19, 3) := by decide +kernel
theorem dX5_readRule_22 : decode cX5_readRule 22 = .ok (.ireturn, 1) := by decide +kernel
theorem dX5_readRule_23 : decode cX5_readRule 23 = .ok (.iconst 0, 1) := by decide +kernel
theorem dX5_readRule_24 : decode cX5_readRule 24 = .ok (.istore_n 2, 1) := by decide +kernel
theorem dX5_readRule_25 : decode cX5_readRule 25 = .ok (.iload_n 2, 1) := by decide +kernel
theorem dX5_readRule_26 : decode cX5_readRule 26 = .ok (.iconst 3, 1) := by decide +kernel
theorem dX5_readRule_27 : decode cX5_readRule 27 = .ok (.if_icmp .ge 51, 3) := by decide +kernel
theorem dX5_readRule_30 : decode cX5_readRule 30 = .ok (.aload_n 0, 1) := by decide +kernel
theorem dX5_readRule_31 : decode cX5_readRule 31 = .ok (.getfield 19, 3) := by decide +kernel
theorem dX5_readRule_34 : decode cX5_readRule 34 = .ok (.aload_n 0, 1) := by decide +kernel
theorem dX5_readRule_35 : decode cX5_readRule 35 = .ok (.getfield 15, 3) := by decide +kernel
theorem dX5_readRule_38 : decode cX5_readRule 38 = .ok (.if_icmp .ge 40, 3) := by decide +kernel
theorem dX5_readRule_41 : decode cX5_readRule 41 = .ok (.aload_n 0, 1) := by decide +kernel
theorem dX5_readRule_42 : decode cX5_readRule 42 = .ok (.iload_n 2, 1) := by decide +kernel
theorem dX5_readRule_43 : decode cX5_readRule 43 = .ok (.ifCond .ne 8, 3) := by decide +kernel
theorem dX5_readRule_46 : decode cX5_readRule 46 = .ok (.ldc 31, 2) := by decide +kernel
theorem dX5_readRule_48 : decode cX5_readRule 48 = .ok (.goto 5, 3) := by decide +kernel
theorem dX5_readRule_51 : decode cX5_readRule 51 = .ok (.ldc 33, 2) := by decide +kernel
theorem dX5_readRule_53 : decode cX5_readRule 53 = .ok (.invokevirtual 35, 3) := by decide +kernel
theorem dX5_readRule_56 : decode cX5_readRule 56 = .ok (.ifCond .eq 11, 3) := by decide +kernel
theorem dX5_readRule_59 : decode cX5_readRule 59 = .ok (.aload_n 0, 1) := by decide +kernel
theorem dX5_readRule_60 : decode cX5_readRule 60 = .ok (.aload_n 1, 1) := by decide +kernel
theorem dX5_readRule_61 : decode cX5_readRule 61 = .ok (.invokevirtual 39, 3) := by decide +kernel
theorem dX5_readRule_64 : decode cX5_readRule 64 = .ok (.ifCond .ne 8, 3) := by decide +kernel
theorem dX5_readRule_67 : decode cX5_readRule 67 = .ok (.aload_n 0, 1) := by decide +kernel
theorem dX5_readRule_68 : decode cX5_readRule 68 = .ok (.getfield 19, 3) := by decide +kernel
theorem dX5_readRule_71 : decode cX5_readRule 71 = .ok (.ireturn, 1) := by decide +kernel
theorem dX5_readRule_72 : decode cX5_readRule 72 = .ok (.iinc 2 1, 3) := by decide +kernel
theorem dX5_readRule_75 : decode cX5_readRule 75 = .ok (.goto (-50), 3) := by decide +kernel
theorem dX5_readRule_78 : decode cX5_readRule 78 = .ok (.aload_n 0, 1) := by decide +kernel
theorem dX5_readRule_79 : decode cX5_readRule 79 = .ok (.getfield 19, 3) := by decide +kernel
theorem dX5_readRule_82 : decode cX5_readRule 82 = .ok (.aload_n 0, 1) := by decide +kernel
theorem dX5_readRule_83 : decode cX5_readRule 83 = .ok (.getfield 15, 3) := by decide +kernel
theorem dX5_readRule_86 : decode cX5_readRule 86 = .ok (.if_icmp .ge 10, 3) := by decide +kernel
theorem dX5_readRule_89 : decode cX5_readRule 89 = .ok (.aload_n 0, 1) := by decide +kernel
theorem dX5_readRule_90 : decode cX5_readRule 90 = .ok (.getfield 19, 3) := by decide +kernel
theorem dX5_readRule_93 : decode cX5_readRule 93 = .ok (.goto 4, 3) := by decide +kernel
theorem dX5_readRule_96 : decode cX5_readRule 96 = .ok (.iconst (-1), 1) := by decide +kernel
theorem dX5_readRule_97 : decode cX5_readRule 97 = .ok (.ireturn, 1) := by decide +kernel
theorem dX5_takeHead_0 : decode cX5_takeHead 0 = .ok (.aload_n 1, 1) := by decide +kernel
theorem dX5_takeHead_1 : decode cX5_takeHead 1 = .ok (.aload_n 0, 1) := by decide +kernel
theorem dX5_takeHead_2 : decode cX5_takeHead 2 = .ok (.invokevirtual 42, 3) := by decide +kernel
theorem dX5_takeHead_5 : decode cX5_takeHead 5 = .ok (.bipush 118, 2) := by decide +kernel
theorem dX5_takeHead_7 : decode cX5_takeHead 7 = .ok (.if_icmp .ne 7, 3) := by decide +kernel
theorem dX5_takeHead_10 : decode cX5_takeHead 10 = .ok (.iconst 1, 1) := by decide +kernel
theorem dX5_takeHead_11 : decode cX5_takeHead 11 = .ok (.goto 4, 3) := by decide +kernel
theorem dX5_takeHead_14 : decode cX5_takeHead 14 = .ok (.iconst 0, 1) := by decide +kernel
theorem dX5_takeHead_15 : decode cX5_takeHead 15 = .ok (.putfield 46, 3) := by decide +kernel
theorem dX5_takeHead_18 : decode cX5_takeHead 18 = .ok (.aload_n 0, 1) := by decide +kernel
theorem dX5_takeHead_19 : decode cX5_takeHead 19 = .ok (.aload_n 1, 1) := by decide +kernel
theorem dX5_takeHead_20 : decode cX5_takeHead 20 = .ok (.getfield 46, 3) := by decide +kernel
theorem dX5_takeHead_23 : decode cX5_takeHead 23 = .ok (.ifCond .eq 8, 3) := by decide +kernel
theorem dX5_takeHead_26 : decode cX5_takeHead 26 = .ok (.ldc 50, 2) := by decide +kernel
theorem dX5_takeHead_28 : decode cX5_takeHead 28 = .ok (.goto 5, 3) := by decide +kernel
theorem dX5_takeHead_31 : decode cX5_takeHead 31 = .ok (.ldc 52, 2) := by decide +kernel
theorem dX5_takeHead_33 : decode cX5_takeHead 33 = .ok (.invokevirtual 35, 3) := by decide +kernel
theorem dX5_takeHead_36 : decode cX5_takeHead 36 = .ok (.ifCond .ne 5, 3) := by decide +kernel
theorem dX5_takeHead_39 : decode cX5_takeHead 39 = .ok (.iconst 0, 1) := by decide +kernel
theorem dX5_takeHead_40 : decode cX5_takeHead 40 = .ok (.ireturn, 1) := by decide +kernel
theorem dX5_takeHead_41 : decode cX5_takeHead 41 = .ok (.aload_n 1, 1) := by decide +kernel
theorem dX5_takeHead_42 : decode cX5_takeHead 42 = .ok (.aload_n 0, 1) := by decide +kernel
theorem dX5_takeHead_43 : decode cX5_takeHead 43 = .ok (.invokevirtual 54, 3) := by decide +kernel
theorem dX5_takeHead_46 : decode cX5_takeHead 46 = .ok (.putfield 57, 3) := by decide +kernel
theorem dX5_takeHead_49 : decode cX5_takeHead 49 = .ok (.aload_n 1, 1) := by decide +kernel
theorem dX5_takeHead_50 : decode cX5_takeHead 50 = .ok (.getfield 57, 3) := by decide +kernel
theorem dX5_takeHead_53 : decode cX5_takeHead 53 = .ok (.iconst (-1), 1) := by decide +kernel
theorem dX5_takeHead_54 : decode cX5_takeHead 54 = .ok (.if_icmp .eq 7, 3) := by decide +kernel
theorem dX5_takeHead_57 : decode cX5_takeHead 57 = .ok (.iconst 1, 1) := by decide +kernel
theorem dX5_takeHead_58 : decode cX5_takeHead 58 = .ok (.goto 4, 3) := by decide +kernel
theorem dX5_takeHead_61 : decode cX5_takeHead 61 = .ok (.iconst 0, 1) := by decide +kernel
theorem dX5_takeHead_62 : decode cX5_takeHead 62 = .ok (.ireturn, 1) := by decide +kernel
theorem dX5_takeTest_0 : decode cX5_takeTest 0 = .ok (.aload_n 0, 1) := by decide +kernel
theorem dX5_takeTest_1 : decode cX5_takeTest 1 = .ok (.invokevirtual 42, 3) := by decide +kernel
theorem dX5_takeTest_4 : decode cX5_takeTest 4 = .ok (.invokestatic 60, 3) := by decide +kernel
theorem dX5_takeTest_7 : decode cX5_takeTest 7 = .ok (.istore_n 2, 1) := by decide +kernel
theorem dX5_takeTest_8 : decode cX5_takeTest 8 = .ok (.iload_n 2, 1) := by decide +kernel
theorem dX5_takeTest_9 : decode cX5_takeTest 9 = .ok (.iconst (-1), 1) := by decide +kernel
theorem dX5_takeTest_10 : decode cX5_takeTest 10 = .ok (.if_icmp .eq 14, 3) := by decide +kernel
theorem dX5_takeTest_13 : decode cX5_takeTest 13 = .ok (.aload_n 0, 1) := by decide +kernel
theorem dX5_takeTest_14 : decode cX5_takeTest 14 = .ok (.iload_n 2, 1) := by decide +kernel
theorem dX5_takeTest_15 : decode cX5_takeTest 15 = .ok (.invokestatic 64, 3) := by decide +kernel
theorem dX5_takeTest_18 : decode cX5_takeTest 18 = .ok (.invokevirtual 35, 3) := by decide +kernel
theorem dX5_takeTest_21 : decode cX5_takeTest 21 = .ok (.ifCond .ne 5, 3) := by decide +kernel
theorem dX5_takeTest_24 : decode cX5_takeTest 24 = .ok (.iconst 0, 1) := by decide +kernel
theorem dX5_takeTest_25 : decode cX5_takeTest 25 = .ok (.ireturn, 1) := by decide +kernel
theorem dX5_takeTest_26 : decode cX5_takeTest 26 = .ok (.aload_n 0, 1) := by decide +kernel
theorem dX5_takeTest_27 : decode cX5_takeTest 27 = .ok (.invokevirtual 42, 3) := by decide +kernel
theorem dX5_takeTest_30 : decode cX5_takeTest 30 = .ok (.istore_n 3, 1) := by decide +kernel
theorem dX5_takeTest_31 : decode cX5_takeTest 31 = .ok (.iload_n 3, 1) := by decide +kernel
theorem dX5_takeTest_32 : decode cX5_takeTest 32 = .ok (.bipush 61, 2) := by decide +kernel
theorem dX5_takeTest_34 : decode cX5_takeTest 34 = .ok (.if_icmp .eq 17, 3) := by decide +kernel
theorem dX5_takeTest_37 : decode cX5_takeTest 37 = .ok (.iload_n 3, 1) := by decide +kernel
theorem dX5_takeTest_38 : decode cX5_takeTest 38 = .ok (.bipush 60, 2) := by decide +kernel
theorem dX5_takeTest_40 : decode cX5_takeTest 40 = .ok (.if_icmp .eq 11, 3) := by decide +kernel
theorem dX5_takeTest_43 : decode cX5_takeTest 43 = .ok (.iload_n 3, 1) := by decide +kernel
theorem dX5_takeTest_44 : decode cX5_takeTest 44 = .ok (.bipush 62, 2) := by decide +kernel
theorem dX5_takeTest_46 : decode cX5_takeTest 46 = .ok (.if_icmp .eq 5, 3) := by decide +kernel
theorem dX5_takeTest_49 : decode cX5_takeTest 49 = .ok (.iconst 0, 1) := by decide +kernel
theorem dX5_takeTest_50 : decode cX5_takeTest 50 = .ok (.ireturn, 1) := by decide +kernel
theorem dX5_takeTest_51 : decode cX5_takeTest 51 = .ok (.aload_n 0, 1) := by decide +kernel
theorem dX5_takeTest_52 : decode cX5_takeTest 52 = .ok (.dup, 1) := by decide +kernel
theorem dX5_takeTest_53 : decode cX5_takeTest 53 = .ok (.getfield 19, 3) := by decide +kernel
theorem dX5_takeTest_56 : decode cX5_takeTest 56 = .ok (.iconst 1, 1) := by decide +kernel
theorem dX5_takeTest_57 : decode cX5_takeTest 57 = .ok (.iadd, 1) := by decide +kernel
theorem dX5_takeTest_58 : decode cX5_takeTest 58 = .ok (.putfield 19, 3) := by decide +kernel
theorem dX5_takeTest_61 : decode cX5_takeTest 61 = .ok (.aload_n 0, 1) := by decide +kernel
theorem dX5_takeTest_62 : decode cX5_takeTest 62 = .ok (.invokevirtual 42, 3) := by decide +kernel
theorem dX5_takeTest_65 : decode cX5_takeTest 65 = .ok (.bipush 45, 2) := by decide +kernel
theorem dX5_takeTest_67 : decode cX5_takeTest 67 = .ok (.if_icmp .ne 7, 3) := by decide +kernel
theorem dX5_takeTest_70 : decode cX5_takeTest 70 = .ok (.iconst 1, 1) := by decide +kernel
theorem dX5_takeTest_71 : decode cX5_takeTest 71 = .ok (.goto 4, 3) := by decide +kernel
theorem dX5_takeTest_74 : decode cX5_takeTest 74 = .ok (.iconst 0, 1) := by decide +kernel
theorem dX5_takeTest_75 : decode cX5_takeTest 75 = .ok (.istore 4, 2) := by decide +kernel
theorem dX5_takeTest_77 : decode cX5_takeTest 77 = .ok (.aload_n 0, 1) := by decide +kernel
theorem dX5_takeTest_78 : decode cX5_takeTest 78 = .ok (.dup, 1) := by decide +kernel
theorem dX5_takeTest_79 : decode cX5_takeTest 79 = .ok (.getfield 19, 3) := by decide +kernel
theorem dX5_takeTest_82 : decode cX5_takeTest 82 = .ok (.iload 4, 2) := by decide +kernel
theorem dX5_takeTest_84 : decode cX5_takeTest 84 = .ok (.ifCond .eq 7, 3) := by decide +kernel
theorem dX5_takeTest_87 : decode cX5_takeTest 87 = .ok (.iconst 1, 1) := by decide +kernel
theorem dX5_takeTest_88 : decode cX5_takeTest 88 = .ok (.goto 4, 3) := by decide +kernel
theorem dX5_takeTest_91 : decode cX5_takeTest 91 = .ok (.iconst 0, 1) := by decide +kernel
theorem dX5_takeTest_92 : decode cX5_takeTest 92 = .ok (.iadd, 1) := by decide +kernel
theorem dX5_takeTest_93 : decode cX5_takeTest 93 = .ok (.putfield 19, 3) := by decide +kernel
theorem dX5_takeTest_96 : decode cX5_takeTest 96 = .ok (.aload_n 0, 1) := by decide +kernel
theorem dX5_takeTest_97 : decode cX5_takeTest 97 = .ok (.invokevirtual 54, 3) := by decide +kernel
theorem dX5_takeTest_100 : decode cX5_takeTest 100 = .ok (.istore 5, 2) := by decide +kernel
theorem dX5_takeTest_102 : decode cX5_takeTest 102 = .ok (.iload 5, 2) := by decide +kernel
theorem dX5_takeTest_104 : decode cX5_takeTest 104 = .ok (.iconst (-1), 1) := by decide +kernel
theorem dX5_takeTest_105 : decode cX5_takeTest 105 = .ok (.if_icmp .ne 5, 3) := by decide +kernel
theorem dX5_takeTest_108 : decode cX5_takeTest 108 = .ok (.iconst 0, 1) := by decide +kernel
theorem dX5_takeTest_109 : decode cX5_takeTest 109 = .ok (.ireturn, 1) := by decide +kernel
theorem dX5_takeTest_110 : decode cX5_takeTest 110 = .ok (.aload_n 1, 1) := by decide +kernel
theorem dX5_takeTest_111 : decode cX5_takeTest 111 = .ok (.getfield 68, 3) := by decide +kernel
theorem dX5_takeTest_114 : decode cX5_takeTest 114 = .ok (.aload_n 1, 1) := by decide +kernel
theorem dX5_takeTest_115 : decode cX5_takeTest 115 = .ok (.getfield 22, 3) := by decide +kernel
theorem dX5_takeTest_118 : decode cX5_takeTest 118 = .ok (.iload_n 2, 1) := by decide +kernel
theorem dX5_takeTest_119 : decode cX5_takeTest 119 = .ok (.iastore, 1) := by decide +kernel
theorem dX5_takeTest_120 : decode cX5_takeTest 120 = .ok (.aload_n 1, 1) := by decide +kernel
theorem dX5_takeTest_121 : decode cX5_takeTest 121 = .ok (.getfield 71, 3) := by decide +kernel
theorem dX5_takeTest_124 : decode cX5_takeTest 124 = .ok (.aload_n 1, 1) := by decide +kernel
theorem dX5_takeTest_125 : decode cX5_takeTest 125 = .ok (.getfield 22, 3) := by decide +kernel
theorem dX5_takeTest_128 : decode cX5_takeTest 128 = .ok (.iload_n 3, 1) := by decide +kernel
theorem dX5_takeTest_129 : decode cX5_takeTest 129 = .ok (.iastore, 1) := by decide +kernel
theorem dX5_takeTest_130 : decode cX5_takeTest 130 = .ok (.aload_n 1, 1) := by decide +kernel
theorem dX5_takeTest_131 : decode cX5_takeTest 131 = .ok (.getfield 74, 3) := by decide +kernel
theorem dX5_takeTest_134 : decode cX5_takeTest 134 = .ok (.aload_n 1, 1) := by decide +kernel
theorem dX5_takeTest_135 : decode cX5_takeTest 135 = .ok (.getfield 22, 3) := by decide +kernel
theorem dX5_takeTest_138 : decode cX5_takeTest 138 = .ok (.iload 4, 2) := by decide +kernel
theorem dX5_takeTest_140 : decode cX5_takeTest 140 = .ok (.ifCond .eq 9, 3) := by decide +kernel
theorem dX5_takeTest_143 : decode cX5_takeTest 143 = .ok (.iload 5, 2) := by decide +kernel
theorem dX5_takeTest_145 : decode cX5_takeTest 145 = .ok (.ineg, 1) := by decide +kernel
theorem dX5_takeTest_146 : decode cX5_takeTest 146 = .ok (.goto 5, 3) := by decide +kernel
theorem dX5_takeTest_149 : decode cX5_takeTest 149 = .ok (.iload 5, 2) := by decide +kernel
theorem dX5_takeTest_151 : decode cX5_takeTest 151 = .ok (.iastore, 1) := by decide +kernel
theorem dX5_takeTest_152 : decode cX5_takeTest 152 = .ok (.aload_n 1, 1) := by decide +kernel
theorem dX5_takeTest_153 : decode cX5_takeTest 153 = .ok (.dup, 1) := by decide +kernel
theorem dX5_takeTest_154 : decode cX5_takeTest 154 = .ok (.getfield 22, 3) := by decide +kernel
theorem dX5_takeTest_157 : decode cX5_takeTest 157 = .ok (.iconst 1, 1) := by decide +kernel
theorem dX5_takeTest_158 : decode cX5_takeTest 158 = .ok (.iadd, 1) := by decide +kernel
theorem dX5_takeTest_159 : decode cX5_takeTest 159 = .ok (.putfield 22, 3) := by decide +kernel
theorem dX5_takeTest_162 : decode cX5_takeTest 162 = .ok (.iconst 1, 1) := by decide +kernel
theorem dX5_takeTest_163 : decode cX5_takeTest 163 = .ok (.ireturn, 1) := by decide +kernel
theorem dX5_nextByte_0 : decode cX5_nextByte 0 = .ok (.aload_n 0, 1) := by decide +kernel
theorem dX5_nextByte_1 : decode cX5_nextByte 1 = .ok (.getfield 19, 3) := by decide +kernel
theorem dX5_nextByte_4 : decode cX5_nextByte 4 = .ok (.aload_n 0, 1) := by decide +kernel
theorem dX5_nextByte_5 : decode cX5_nextByte 5 = .ok (.getfield 15, 3) := by decide +kernel
theorem dX5_nextByte_8 : decode cX5_nextByte 8 = .ok (.if_icmp .ge 15, 3) := by decide +kernel
theorem dX5_nextByte_11 : decode cX5_nextByte 11 = .ok (.aload_n 0, 1) := by decide +kernel
theorem dX5_nextByte_12 : decode cX5_nextByte 12 = .ok (.getfield 11, 3) := by decide +kernel
theorem dX5_nextByte_15 : decode cX5_nextByte 15 = .ok (.aload_n 0, 1) := by decide +kernel
theorem dX5_nextByte_16 : decode cX5_nextByte 16 = .ok (.getfield 19, 3) := by decide +kernel
theorem dX5_nextByte_19 : decode cX5_nextByte 19 = .ok (.iaload, 1) := by decide +kernel
theorem dX5_nextByte_20 : decode cX5_nextByte 20 = .ok (.goto 4, 3) := by decide +kernel
theorem dX5_nextByte_23 : decode cX5_nextByte 23 = .ok (.iconst (-1), 1) := by decide +kernel
theorem dX5_nextByte_24 : decode cX5_nextByte 24 = .ok (.ireturn, 1) := by decide +kernel
theorem dX5_takeWord_0 : decode cX5_takeWord 0 = .ok (.iconst 0, 1) := by decide +kernel
theorem dX5_takeWord_1 : decode cX5_takeWord 1 = .ok (.istore_n 2, 1) := by decide +kernel
theorem dX5_takeWord_2 : decode cX5_takeWord 2 = .ok (.iload_n 2, 1) := by decide +kernel
theorem dX5_takeWord_3 : decode cX5_takeWord 3 = .ok (.aload_n 1, 1) := by decide +kernel
theorem dX5_takeWord_4 : decode cX5_takeWord 4 = .ok (.invokevirtual 77, 3) := by decide +kernel
theorem dX5_takeWord_7 : decode cX5_takeWord 7 = .ok (.if_icmp .ge 33, 3) := by decide +kernel
theorem dX5_takeWord_10 : decode cX5_takeWord 10 = .ok (.aload_n 0, 1) := by decide +kernel
theorem dX5_takeWord_11 : decode cX5_takeWord 11 = .ok (.invokevirtual 42, 3) := by decide +kernel
theorem dX5_takeWord_14 : decode cX5_takeWord 14 = .ok (.aload_n 1, 1) := by decide +kernel
theorem dX5_takeWord_15 : decode cX5_takeWord 15 = .ok (.iload_n 2, 1) := by decide +kernel
theorem dX5_takeWord_16 : decode cX5_takeWord 16 = .ok (.invokevirtual 81, 3) := by decide +kernel
theorem dX5_takeWord_19 : decode cX5_takeWord 19 = .ok (.if_icmp .eq 5, 3) := by decide +kernel
theorem dX5_takeWord_22 : decode cX5_takeWord 22 = .ok (.iconst 0, 1) := by decide +kernel
theorem dX5_takeWord_23 : decode cX5_takeWord 23 = .ok (.ireturn, 1) := by decide +kernel
theorem dX5_takeWord_24 : decode cX5_takeWord 24 = .ok (.aload_n 0, 1) := by decide +kernel
theorem dX5_takeWord_25 : decode cX5_takeWord 25 = .ok (.dup, 1) := by decide +kernel
theorem dX5_takeWord_26 : decode cX5_takeWord 26 = .ok (.getfield 19, 3) := by decide +kernel
theorem dX5_takeWord_29 : decode cX5_takeWord 29 = .ok (.iconst 1, 1) := by decide +kernel
theorem dX5_takeWord_30 : decode cX5_takeWord 30 = .ok (.iadd, 1) := by decide +kernel
theorem dX5_takeWord_31 : decode cX5_takeWord 31 = .ok (.putfield 19, 3) := by decide +kernel
theorem dX5_takeWord_34 : decode cX5_takeWord 34 = .ok (.iinc 2 1, 3) := by decide +kernel
theorem dX5_takeWord_37 : decode cX5_takeWord 37 = .ok (.goto (-35), 3) := by decide +kernel
theorem dX5_takeWord_40 : decode cX5_takeWord 40 = .ok (.iconst 1, 1) := by decide +kernel
theorem dX5_takeWord_41 : decode cX5_takeWord 41 = .ok (.ireturn, 1) := by decide +kernel
theorem dX5_takeNumber_0 : decode cX5_takeNumber 0 = .ok (.iconst (-1), 1) := by decide +kernel
theorem dX5_takeNumber_1 : decode cX5_takeNumber 1 = .ok (.istore_n 1, 1) := by decide +kernel
theorem dX5_takeNumber_2 : decode cX5_takeNumber 2 = .ok (.iconst 0, 1) := by decide +kernel
theorem dX5_takeNumber_3 : decode cX5_takeNumber 3 = .ok (.istore_n 2, 1) := by decide +kernel
theorem dX5_takeNumber_4 : decode cX5_takeNumber 4 = .ok (.iload_n 2, 1) := by decide +kernel
theorem dX5_takeNumber_5 : decode cX5_takeNumber 5 = .ok (.iconst 3, 1) := by decide +kernel
theorem dX5_takeNumber_6 : decode cX5_takeNumber 6 = .ok (.if_icmp .ge 46, 3) := by decide +kernel
theorem dX5_takeNumber_9 : decode cX5_takeNumber 9 = .ok (.aload_n 0, 1) := by decide +kernel
theorem dX5_takeNumber_10 : decode cX5_takeNumber 10 = .ok (.invokevirtual 42, 3) := by decide +kernel
theorem dX5_takeNumber_13 : decode cX5_takeNumber 13 = .ok (.invokestatic 85, 3) := by decide +kernel
theorem dX5_takeNumber_16 : decode cX5_takeNumber 16 = .ok (.ifCond .eq 36, 3) := by decide +kernel
theorem dX5_takeNumber_19 : decode cX5_takeNumber 19 = .ok (.iconst 0, 1) := by decide +kernel
theorem dX5_takeNumber_20 : decode cX5_takeNumber 20 = .ok (.iload_n 1, 1) := by decide +kernel
theorem dX5_takeNumber_21 : decode cX5_takeNumber 21 = .ok (.invokestatic 89, 3) := by decide +kernel
theorem dX5_takeNumber_24 : decode cX5_takeNumber 24 = .ok (.bipush 10, 2) := by decide +kernel
theorem dX5_takeNumber_26 : decode cX5_takeNumber 26 = .ok (.imul, 1) := by decide +kernel
theorem dX5_takeNumber_27 : decode cX5_takeNumber 27 = .ok (.aload_n 0, 1) := by decide +kernel
theorem dX5_takeNumber_28 : decode cX5_takeNumber 28 = .ok (.invokevirtual 42, 3) := by decide +kernel
theorem dX5_takeNumber_31 : decode cX5_takeNumber 31 = .ok (.bipush 48, 2) := by decide +kernel
theorem dX5_takeNumber_33 : decode cX5_takeNumber 33 = .ok (.isub, 1) := by decide +kernel
theorem dX5_takeNumber_34 : decode cX5_takeNumber 34 = .ok (.iadd, 1) := by decide +kernel
theorem dX5_takeNumber_35 : decode cX5_takeNumber 35 = .ok (.istore_n 1, 1) := by decide +kernel
theorem dX5_takeNumber_36 : decode cX5_takeNumber 36 = .ok (.aload_n 0, 1) := by decide +kernel
theorem dX5_takeNumber_37 : decode cX5_takeNumber 37 = .ok (.dup, 1) := by decide +kernel
theorem dX5_takeNumber_38 : decode cX5_takeNumber 38 = .ok (.getfield 19, 3) := by decide +kernel
theorem dX5_takeNumber_41 : decode cX5_takeNumber 41 = .ok (.iconst 1, 1) := by decide +kernel
theorem dX5_takeNumber_42 : decode cX5_takeNumber 42 = .ok (.iadd, 1) := by decide +kernel
theorem dX5_takeNumber_43 : decode cX5_takeNumber 43 = .ok (.putfield 19, 3) := by decide +kernel
theorem dX5_takeNumber_46 : decode cX5_takeNumber 46 = .ok (.iinc 2 1, 3) := by decide +kernel
theorem dX5_takeNumber_49 : decode cX5_takeNumber 49 = .ok (.goto (-45), 3) := by decide +kernel
theorem dX5_takeNumber_52 : decode cX5_takeNumber 52 = .ok (.iload_n 1, 1) := by decide +kernel
theorem dX5_takeNumber_53 : decode cX5_takeNumber 53 = .ok (.ireturn, 1) := by decide +kernel
theorem dX5_isDigit_0 : decode cX5_isDigit 0 = .ok (.iload_n 0, 1) := by decide +kernel
theorem dX5_isDigit_1 : decode cX5_isDigit 1 = .ok (.bipush 48, 2) := by decide +kernel
theorem dX5_isDigit_3 : decode cX5_isDigit 3 = .ok (.if_icmp .lt 13, 3) := by decide +kernel
theorem dX5_isDigit_6 : decode cX5_isDigit 6 = .ok (.iload_n 0, 1) := by decide +kernel
theorem dX5_isDigit_7 : decode cX5_isDigit 7 = .ok (.bipush 57, 2) := by decide +kernel
theorem dX5_isDigit_9 : decode cX5_isDigit 9 = .ok (.if_icmp .gt 7, 3) := by decide +kernel
theorem dX5_isDigit_12 : decode cX5_isDigit 12 = .ok (.iconst 1, 1) := by decide +kernel
theorem dX5_isDigit_13 : decode cX5_isDigit 13 = .ok (.goto 4, 3) := by decide +kernel
theorem dX5_isDigit_16 : decode cX5_isDigit 16 = .ok (.iconst 0, 1) := by decide +kernel
theorem dX5_isDigit_17 : decode cX5_isDigit 17 = .ok (.ireturn, 1) := by decide +kernel
theorem dX5_fieldThatBegins_0 : decode cX5_fieldThatBegins 0 = .ok (.iload_n 0, 1) := by decide +kernel
theorem dX5_fieldThatBegins_1 : decode cX5_fieldThatBegins 1 = .ok (.lookupswitch 61 #[(99, 59), (104, 53), (105, 51), (111, 55), (115, 57)], 51) := by decide +kernel
theorem dX5_fieldThatBegins_52 : decode cX5_fieldThatBegins 52 = .ok (.iconst 0, 1) := by decide +kernel
theorem dX5_fieldThatBegins_53 : decode cX5_fieldThatBegins 53 = .ok (.ireturn, 1) := by decide +kernel
theorem dX5_fieldThatBegins_54 : decode cX5_fieldThatBegins 54 = .ok (.iconst 1, 1) := by decide +kernel
theorem dX5_fieldThatBegins_55 : decode cX5_fieldThatBegins 55 = .ok (.ireturn, 1) := by decide +kernel
theorem dX5_fieldThatBegins_56 : decode cX5_fieldThatBegins 56 = .ok (.iconst 2, 1) := by decide +kernel
theorem dX5_fieldThatBegins_57 : decode cX5_fieldThatBegins 57 = .ok (.ireturn, 1) := by decide +kernel
theorem dX5_fieldThatBegins_58 : decode cX5_fieldThatBegins 58 = .ok (.iconst 3, 1) := by decide +kernel
theorem dX5_fieldThatBegins_59 : decode cX5_fieldThatBegins 59 = .ok (.ireturn, 1) := by decide +kernel
theorem dX5_fieldThatBegins_60 : decode cX5_fieldThatBegins 60 = .ok (.iconst 4, 1) := by decide +kernel
theorem dX5_fieldThatBegins_61 : decode cX5_fieldThatBegins 61 = .ok (.ireturn, 1) := by decide +kernel
theorem dX5_fieldThatBegins_62 : decode cX5_fieldThatBegins 62 = .ok (.iconst (-1), 1) := by decide +kernel
theorem dX5_fieldThatBegins_63 : decode cX5_fieldThatBegins 63 = .ok (.ireturn, 1) := by decide +kernel
theorem dX5_wordOf_0 : decode cX5_wordOf 0 = .ok (.iload_n 0, 1) := by decide +kernel
theorem dX5_wordOf_1 : decode cX5_wordOf 1 = .ok (.tableswitch 43 0 3 #[31, 34, 37, 40], 31) := by decide +kernel
theorem dX5_wordOf_32 : decode cX5_wordOf 32 = .ok (.ldc 95, 2) := by decide +kernel
theorem dX5_wordOf_34 : decode cX5_wordOf 34 = .ok (.areturn, 1) := by decide +kernel
theorem dX5_wordOf_35 : decode cX5_wordOf 35 = .ok (.ldc 97, 2) := by decide +kernel
theorem dX5_wordOf_37 : decode cX5_wordOf 37 = .ok (.areturn, 1) := by decide +kernel
theorem dX5_wordOf_38 : decode cX5_wordOf 38 = .ok (.ldc 99, 2) := by decide +kernel
theorem dX5_wordOf_40 : decode cX5_wordOf 40 = .ok (.areturn, 1) := by decide +kernel
theorem dX5_wordOf_41 : decode cX5_wordOf 41 = .ok (.ldc 101, 2) := by decide +kernel
theorem dX5_wordOf_43 : decode cX5_wordOf 43 = .ok (.areturn, 1) := by decide +kernel
theorem dX5_wordOf_44 : decode cX5_wordOf 44 = .ok (.ldc 103, 2) := by decide +kernel
theorem dX5_wordOf_46 : decode cX5_wordOf 46 = .ok (.areturn, 1) := by decide +kernel
theorem dX6_init_0 : decode cX6_init 0 = .ok (.aload_n 0, 1) := by decide +kernel
theorem dX6_init_1 : decode cX6_init 1 = .ok (.invokespecial 3, 3) := by decide +kernel
theorem dX6_init_4 : decode cX6_init 4 = .ok (.aload_n 0, 1) := by decide +kernel
theorem dX6_init_5 : decode cX6_init 5 = .ok (.iconst 0, 1) := by decide +kernel
theorem dX6_init_6 : decode cX6_init 6 = .ok (.putfield 9, 3) := by decide +kernel
theorem dX6_init_9 : decode cX6_init 9 = .ok (.aload_n 0, 1) := by decide +kernel
theorem dX6_init_10 : decode cX6_init 10 = .ok (.iconst (-1), 1) := by decide +kernel
theorem dX6_init_11 : decode cX6_init 11 = .ok (.putfield 15, 3) := by decide +kernel
theorem dX6_init_14 : decode cX6_init 14 = .ok (.aload_n 0, 1) := by decide +kernel
theorem dX6_init_15 : decode cX6_init 15 = .ok (.iconst 0, 1) := by decide +kernel
theorem dX6_init_16 : decode cX6_init 16 = .ok (.putfield 18, 3) := by decide +kernel
theorem dX6_init_19 : decode cX6_init 19 = .ok (.aload_n 0, 1) := by decide +kernel
theorem dX6_init_20 : decode cX6_init 20 = .ok (.iconst 0, 1) := by decide +kernel
theorem dX6_init_21 : decode cX6_init 21 = .ok (.putfield 21, 3) := by decide +kernel
theorem dX6_init_24 : decode cX6_init 24 = .ok (.aload_n 0, 1) := by decide +kernel
theorem dX6_init_25 : decode cX6_init 25 = .ok (.iconst 0, 1) := by decide +kernel
theorem dX6_init_26 : decode cX6_init 26 = .ok (.putfield 24, 3) := by decide +kernel
theorem dX6_init_29 : decode cX6_init 29 = .ok (.aload_n 0, 1) := by decide +kernel
theorem dX6_init_30 : decode cX6_init 30 = .ok (.iconst 0, 1) := by decide +kernel
theorem dX6_init_31 : decode cX6_init 31 = .ok (.putfield 27, 3) := by decide +kernel
theorem dX6_init_34 : decode cX6_init 34 = .ok (.return_, 1) := by decide +kernel
theorem dX6_isLoaded_0 : decode cX6_isLoaded 0 = .ok (.aload_n 0, 1) := by decide +kernel
theorem dX6_isLoaded_1 : decode cX6_isLoaded 1 = .ok (.getfield 15, 3) := by decide +kernel
theorem dX6_isLoaded_4 : decode cX6_isLoaded 4 = .ok (.iconst (-1), 1) := by decide +kernel
theorem dX6_isLoaded_5 : decode cX6_isLoaded 5 = .ok (.if_icmp .eq 7, 3) := by decide +kernel
theorem dX6_isLoaded_8 : decode cX6_isLoaded 8 = .ok (.iconst 1, 1) := by decide +kernel
theorem dX6_isLoaded_9 : decode cX6_isLoaded 9 = .ok (.goto 4, 3) := by decide +kernel
theorem dX6_isLoaded_12 : decode cX6_isLoaded 12 = .ok (.iconst 0, 1) := by decide +kernel
theorem dX6_isLoaded_13 : decode cX6_isLoaded 13 = .ok (.ireturn, 1) := by decide +kernel
theorem dX6_putOn_0 : decode cX6_putOn 0 = .ok (.aload_n 0, 1) := by decide +kernel
theorem dX6_putOn_1 : decode cX6_putOn 1 = .ok (.iload_n 1, 1) := by decide +kernel
theorem dX6_putOn_2 : decode cX6_putOn 2 = .ok (.putfield 15, 3) := by decide +kernel
theorem dX6_putOn_5 : decode cX6_putOn 5 = .ok (.aload_n 0, 1) := by decide +kernel
theorem dX6_putOn_6 : decode cX6_putOn 6 = .ok (.iload_n 2, 1) := by decide +kernel
theorem dX6_putOn_7 : decode cX6_putOn 7 = .ok (.putfield 18, 3) := by decide +kernel
theorem dX6_putOn_10 : decode cX6_putOn 10 = .ok (.aload_n 0, 1) := by decide +kernel
theorem dX6_putOn_11 : decode cX6_putOn 11 = .ok (.iload_n 3, 1) := by decide +kernel
theorem dX6_putOn_12 : decode cX6_putOn 12 = .ok (.putfield 21, 3) := by decide +kernel
theorem dX6_putOn_15 : decode cX6_putOn 15 = .ok (.aload_n 0, 1) := by decide +kernel
theorem dX6_putOn_16 : decode cX6_putOn 16 = .ok (.iload_n 1, 1) := by decide +kernel
theorem dX6_putOn_17 : decode cX6_putOn 17 = .ok (.iconst 2, 1) := by decide +kernel
theorem dX6_putOn_18 : decode cX6_putOn 18 = .ok (.if_icmp .ne 8, 3) := by decide +kernel
theorem dX6_putOn_21 : decode cX6_putOn 21 = .ok (.iload 4, 2) := by decide +kernel
theorem dX6_putOn_23 : decode cX6_putOn 23 = .ok (.goto 4, 3) := by decide +kernel
theorem dX6_putOn_26 : decode cX6_putOn 26 = .ok (.iconst (-1), 1) := by decide +kernel
theorem dX6_putOn_27 : decode cX6_putOn 27 = .ok (.putfield 24, 3) := by decide +kernel
theorem dX6_putOn_30 : decode cX6_putOn 30 = .ok (.aload_n 0, 1) := by decide +kernel
theorem dX6_putOn_31 : decode cX6_putOn 31 = .ok (.iconst 0, 1) := by decide +kernel
theorem dX6_putOn_32 : decode cX6_putOn 32 = .ok (.putfield 27, 3) := by decide +kernel
theorem dX6_putOn_35 : decode cX6_putOn 35 = .ok (.return_, 1) := by decide +kernel
theorem dX6_takeOff_0 : decode cX6_takeOff 0 = .ok (.aload_n 0, 1) := by decide +kernel
theorem dX6_takeOff_1 : decode cX6_takeOff 1 = .ok (.iconst (-1), 1) := by decide +kernel
theorem dX6_takeOff_2 : decode cX6_takeOff 2 = .ok (.putfield 15, 3) := by decide +kernel
theorem dX6_takeOff_5 : decode cX6_takeOff 5 = .ok (.aload_n 0, 1) := by decide +kernel
theorem dX6_takeOff_6 : decode cX6_takeOff 6 = .ok (.iconst 0, 1) := by decide +kernel
theorem dX6_takeOff_7 : decode cX6_takeOff 7 = .ok (.putfield 18, 3) := by decide +kernel
theorem dX6_takeOff_10 : decode cX6_takeOff 10 = .ok (.aload_n 0, 1) := by decide +kernel
theorem dX6_takeOff_11 : decode cX6_takeOff 11 = .ok (.iconst 0, 1) := by decide +kernel
theorem dX6_takeOff_12 : decode cX6_takeOff 12 = .ok (.putfield 21, 3) := by decide +kernel
theorem dX6_takeOff_15 : decode cX6_takeOff 15 = .ok (.return_, 1) := by decide +kernel
theorem dX6_ofLoad_0 : decode cX6_ofLoad 0 = .ok (.iload_n 1, 1) := by decide +kernel
theorem dX6_ofLoad_1 : decode cX6_ofLoad 1 = .ok (.tableswitch 42 1 3 #[27, 32, 37], 27) := by decide +kernel
theorem dX6_ofLoad_28 : decode cX6_ofLoad 28 = .ok (.aload_n 0, 1) := by decide +kernel
theorem dX6_ofLoad_29 : decode cX6_ofLoad 29 = .ok (.getfield 15, 3) := by decide +kernel
theorem dX6_ofLoad_32 : decode cX6_ofLoad 32 = .ok (.ireturn, 1) := by decide +kernel
theorem dX6_ofLoad_33 : decode cX6_ofLoad 33 = .ok (.aload_n 0, 1) := by decide +kernel
theorem dX6_ofLoad_34 : decode cX6_ofLoad 34 = .ok (.getfield 18, 3) := by decide +kernel
theorem dX6_ofLoad_37 : decode cX6_ofLoad 37 = .ok (.ireturn, 1) := by decide +kernel
theorem dX6_ofLoad_38 : decode cX6_ofLoad 38 = .ok (.aload_n 0, 1) := by decide +kernel
theorem dX6_ofLoad_39 : decode cX6_ofLoad 39 = .ok (.getfield 21, 3) := by decide +kernel
theorem dX6_ofLoad_42 : decode cX6_ofLoad 42 = .ok (.ireturn, 1) := by decide +kernel
theorem dX6_ofLoad_43 : decode cX6_ofLoad 43 = .ok (.aload_n 0, 1) := by decide +kernel
theorem dX6_ofLoad_44 : decode cX6_ofLoad 44 = .ok (.getfield 24, 3) := by decide +kernel
theorem dX6_ofLoad_47 : decode cX6_ofLoad 47 = .ok (.ireturn, 1) := by decide +kernel
theorem dX6_liveHour_0 : decode cX6_liveHour 0 = .ok (.aload_n 0, 1) := by decide +kernel
theorem dX6_liveHour_1 : decode cX6_liveHour 1 = .ok (.invokevirtual 31, 3) := by decide +kernel
theorem dX6_liveHour_4 : decode cX6_liveHour 4 = .ok (.ifCond .ne 5, 3) := by decide +kernel
theorem dX6_liveHour_7 : decode cX6_liveHour 7 = .ok (.iconst 0, 1) := by decide +kernel
theorem dX6_liveHour_8 : decode cX6_liveHour 8 = .ok (.ireturn, 1) := by decide +kernel
theorem dX6_liveHour_9 : decode cX6_liveHour 9 = .ok (.aload_n 0, 1) := by decide +kernel
theorem dX6_liveHour_10 : decode cX6_liveHour 10 = .ok (.getfield 21, 3) := by decide +kernel
theorem dX6_liveHour_13 : decode cX6_liveHour 13 = .ok (.aload_n 0, 1) := by decide +kernel
theorem dX6_liveHour_14 : decode cX6_liveHour 14 = .ok (.aload_n 1, 1) := by decide +kernel
theorem dX6_liveHour_15 : decode cX6_liveHour 15 = .ok (.invokevirtual 35, 3) := by decide +kernel
theorem dX6_liveHour_18 : decode cX6_liveHour 18 = .ok (.invokestatic 39, 3) := by decide +kernel
theorem dX6_liveHour_21 : decode cX6_liveHour 21 = .ok (.istore_n 2, 1) := by decide +kernel
theorem dX6_liveHour_22 : decode cX6_liveHour 22 = .ok (.aload_n 0, 1) := by decide +kernel
theorem dX6_liveHour_23 : decode cX6_liveHour 23 = .ok (.dup, 1) := by decide +kernel
theorem dX6_liveHour_24 : decode cX6_liveHour 24 = .ok (.getfield 21, 3) := by decide +kernel
theorem dX6_liveHour_27 : decode cX6_liveHour 27 = .ok (.iload_n 2, 1) := by decide +kernel
theorem dX6_liveHour_28 : decode cX6_liveHour 28 = .ok (.isub, 1) := by decide +kernel
theorem dX6_liveHour_29 : decode cX6_liveHour 29 = .ok (.putfield 21, 3) := by decide +kernel
theorem dX6_liveHour_32 : decode cX6_liveHour 32 = .ok (.iload_n 2, 1) := by decide +kernel
theorem dX6_liveHour_33 : decode cX6_liveHour 33 = .ok (.aload_n 0, 1) := by decide +kernel
theorem dX6_liveHour_34 : decode cX6_liveHour 34 = .ok (.getfield 18, 3) := by decide +kernel
theorem dX6_liveHour_37 : decode cX6_liveHour 37 = .ok (.imul, 1) := by decide +kernel
theorem dX6_liveHour_38 : decode cX6_liveHour 38 = .ok (.ireturn, 1) := by decide +kernel
theorem dX6_lossOfHour_0 : decode cX6_lossOfHour 0 = .ok (.aload_n 0, 1) := by decide +kernel
theorem dX6_lossOfHour_1 : decode cX6_lossOfHour 1 = .ok (.getfield 15, 3) := by decide +kernel
theorem dX6_lossOfHour_4 : decode cX6_lossOfHour 4 = .ok (.tableswitch 113 1 4 #[32, 43, 63, 75], 32) := by decide +kernel
theorem dX6_lossOfHour_36 : decode cX6_lossOfHour 36 = .ok (.iconst 2, 1) := by decide +kernel
theorem dX6_lossOfHour_37 : decode cX6_lossOfHour 37 = .ok (.aload_n 0, 1) := by decide +kernel
theorem dX6_lossOfHour_38 : decode cX6_lossOfHour 38 = .ok (.getfield 9, 3) := by decide +kernel
theorem dX6_lossOfHour_41 : decode cX6_lossOfHour 41 = .ok (.aload_n 1, 1) := by decide +kernel
theorem dX6_lossOfHour_42 : decode cX6_lossOfHour 42 = .ok (.invokestatic 45, 3) := by decide +kernel
theorem dX6_lossOfHour_45 : decode cX6_lossOfHour 45 = .ok (.imul, 1) := by decide +kernel
theorem dX6_lossOfHour_46 : decode cX6_lossOfHour 46 = .ok (.ireturn, 1) := by decide +kernel
theorem dX6_lossOfHour_47 : decode cX6_lossOfHour 47 = .ok (.aload_n 0, 1) := by decide +kernel
theorem dX6_lossOfHour_48 : decode cX6_lossOfHour 48 = .ok (.invokevirtual 49, 3) := by decide +kernel
theorem dX6_lossOfHour_51 : decode cX6_lossOfHour 51 = .ok (.ifCond .eq 7, 3) := by decide +kernel
theorem dX6_lossOfHour_54 : decode cX6_lossOfHour 54 = .ok (.iconst 0, 1) := by decide +kernel
theorem dX6_lossOfHour_55 : decode cX6_lossOfHour 55 = .ok (.goto 11, 3) := by decide +kernel
theorem dX6_lossOfHour_58 : decode cX6_lossOfHour 58 = .ok (.aload_n 0, 1) := by decide +kernel
theorem dX6_lossOfHour_59 : decode cX6_lossOfHour 59 = .ok (.getfield 9, 3) := by decide +kernel
theorem dX6_lossOfHour_62 : decode cX6_lossOfHour 62 = .ok (.aload_n 1, 1) := by decide +kernel
theorem dX6_lossOfHour_63 : decode cX6_lossOfHour 63 = .ok (.invokestatic 45, 3) := by decide +kernel
theorem dX6_lossOfHour_66 : decode cX6_lossOfHour 66 = .ok (.ireturn, 1) := by decide +kernel
theorem dX6_lossOfHour_67 : decode cX6_lossOfHour 67 = .ok (.aload_n 0, 1) := by decide +kernel
theorem dX6_lossOfHour_68 : decode cX6_lossOfHour 68 = .ok (.getfield 9, 3) := by decide +kernel
theorem dX6_lossOfHour_71 : decode cX6_lossOfHour 71 = .ok (.bipush 60, 2) := by decide +kernel
theorem dX6_lossOfHour_73 : decode cX6_lossOfHour 73 = .ok (.isub, 1) := by decide +kernel
theorem dX6_lossOfHour_74 : decode cX6_lossOfHour 74 = .ok (.aload_n 1, 1) := by decide +kernel
theorem dX6_lossOfHour_75 : decode cX6_lossOfHour 75 = .ok (.invokestatic 45, 3) := by decide +kernel
theorem dX6_lossOfHour_78 : decode cX6_lossOfHour 78 = .ok (.ireturn, 1) := by decide +kernel
theorem dX6_lossOfHour_79 : decode cX6_lossOfHour 79 = .ok (.aload_n 0, 1) := by decide +kernel
theorem dX6_lossOfHour_80 : decode cX6_lossOfHour 80 = .ok (.aload_n 0, 1) := by decide +kernel
theorem dX6_lossOfHour_81 : decode cX6_lossOfHour 81 = .ok (.getfield 27, 3) := by decide +kernel
theorem dX6_lossOfHour_84 : decode cX6_lossOfHour 84 = .ok (.ifCond .ne 7, 3) := by decide +kernel
theorem dX6_lossOfHour_87 : decode cX6_lossOfHour 87 = .ok (.iconst 1, 1) := by decide +kernel
theorem dX6_lossOfHour_88 : decode cX6_lossOfHour 88 = .ok (.goto 4, 3) := by decide +kernel
theorem dX6_lossOfHour_91 : decode cX6_lossOfHour 91 = .ok (.iconst 0, 1) := by decide +kernel
theorem dX6_lossOfHour_92 : decode cX6_lossOfHour 92 = .ok (.putfield 27, 3) := by decide +kernel
theorem dX6_lossOfHour_95 : decode cX6_lossOfHour 95 = .ok (.aload_n 0, 1) := by decide +kernel
theorem dX6_lossOfHour_96 : decode cX6_lossOfHour 96 = .ok (.getfield 27, 3) := by decide +kernel
theorem dX6_lossOfHour_99 : decode cX6_lossOfHour 99 = .ok (.ifCond .eq 7, 3) := by decide +kernel
theorem dX6_lossOfHour_102 : decode cX6_lossOfHour 102 = .ok (.iconst 2, 1) := by decide +kernel
theorem dX6_lossOfHour_103 : decode cX6_lossOfHour 103 = .ok (.goto 4, 3) := by decide +kernel
theorem dX6_lossOfHour_106 : decode cX6_lossOfHour 106 = .ok (.iconst 1, 1) := by decide +kernel
theorem dX6_lossOfHour_107 : decode cX6_lossOfHour 107 = .ok (.aload_n 0, 1) := by decide +kernel
theorem dX6_lossOfHour_108 : decode cX6_lossOfHour 108 = .ok (.getfield 9, 3) := by decide +kernel
theorem dX6_lossOfHour_111 : decode cX6_lossOfHour 111 = .ok (.aload_n 1, 1) := by decide +kernel
theorem dX6_lossOfHour_112 : decode cX6_lossOfHour 112 = .ok (.invokestatic 45, 3) := by decide +kernel
theorem dX6_lossOfHour_115 : decode cX6_lossOfHour 115 = .ok (.imul, 1) := by decide +kernel
theorem dX6_lossOfHour_116 : decode cX6_lossOfHour 116 = .ok (.ireturn, 1) := by decide +kernel
theorem dX6_lossOfHour_117 : decode cX6_lossOfHour 117 = .ok (.aload_n 0, 1) := by decide +kernel
theorem dX6_lossOfHour_118 : decode cX6_lossOfHour 118 = .ok (.getfield 9, 3) := by decide +kernel
theorem dX6_lossOfHour_121 : decode cX6_lossOfHour 121 = .ok (.aload_n 1, 1) := by decide +kernel
theorem dX6_lossOfHour_122 : decode cX6_lossOfHour 122 = .ok (.invokestatic 45, 3) := by decide +kernel
theorem dX6_lossOfHour_125 : decode cX6_lossOfHour 125 = .ok (.ireturn, 1) := by decide +kernel
theorem dX6_ripen_0 : decode cX6_ripen 0 = .ok (.aload_n 0, 1) := by decide +kernel
theorem dX6_ripen_1 : decode cX6_ripen 1 = .ok (.getfield 24, 3) := by decide +kernel
theorem dX6_ripen_4 : decode cX6_ripen 4 = .ok (.ifCond .gt 5, 3) := by decide +kernel
theorem dX6_ripen_7 : decode cX6_ripen 7 = .ok (.iconst 0, 1) := by decide +kernel
theorem dX6_ripen_8 : decode cX6_ripen 8 = .ok (.ireturn, 1) := by decide +kernel
theorem dX6_ripen_9 : decode cX6_ripen 9 = .ok (.aload_n 0, 1) := by decide +kernel
theorem dX6_ripen_10 : decode cX6_ripen 10 = .ok (.getfield 9, 3) := by decide +kernel
theorem dX6_ripen_13 : decode cX6_ripen 13 = .ok (.bipush 100, 2) := by decide +kernel
theorem dX6_ripen_15 : decode cX6_ripen 15 = .ok (.if_icmp .lt 13, 3) := by decide +kernel
theorem dX6_ripen_18 : decode cX6_ripen 18 = .ok (.aload_n 0, 1) := by decide +kernel
theorem dX6_ripen_19 : decode cX6_ripen 19 = .ok (.dup, 1) := by decide +kernel
theorem dX6_ripen_20 : decode cX6_ripen 20 = .ok (.getfield 24, 3) := by decide +kernel
theorem dX6_ripen_23 : decode cX6_ripen 23 = .ok (.iconst 1, 1) := by decide +kernel
theorem dX6_ripen_24 : decode cX6_ripen 24 = .ok (.isub, 1) := by decide +kernel
theorem dX6_ripen_25 : decode cX6_ripen 25 = .ok (.putfield 24, 3) := by decide +kernel
theorem dX6_ripen_28 : decode cX6_ripen 28 = .ok (.iconst 1, 1) := by decide +kernel
theorem dX6_ripen_29 : decode cX6_ripen 29 = .ok (.ireturn, 1) := by decide +kernel
theorem dX6_lossAt_0 : decode cX6_lossAt 0 = .ok (.aload_n 1, 1) := by decide +kernel
theorem dX6_lossAt_1 : decode cX6_lossAt 1 = .ok (.iconst 0, 1) := by decide +kernel
theorem dX6_lossAt_2 : decode cX6_lossAt 2 = .ok (.aload_n 1, 1) := by decide +kernel
theorem dX6_lossAt_3 : decode cX6_lossAt 3 = .ok (.arraylength, 1) := by decide +kernel
theorem dX6_lossAt_4 : decode cX6_lossAt 4 = .ok (.iconst 1, 1) := by decide +kernel
theorem dX6_lossAt_5 : decode cX6_lossAt 5 = .ok (.isub, 1) := by decide +kernel
theorem dX6_lossAt_6 : decode cX6_lossAt 6 = .ok (.iload_n 0, 1) := by decide +kernel
theorem dX6_lossAt_7 : decode cX6_lossAt 7 = .ok (.bipush 50, 2) := by decide +kernel
theorem dX6_lossAt_9 : decode cX6_lossAt 9 = .ok (.idiv, 1) := by decide +kernel
theorem dX6_lossAt_10 : decode cX6_lossAt 10 = .ok (.invokestatic 39, 3) := by decide +kernel
theorem dX6_lossAt_13 : decode cX6_lossAt 13 = .ok (.invokestatic 52, 3) := by decide +kernel
theorem dX6_lossAt_16 : decode cX6_lossAt 16 = .ok (.iaload, 1) := by decide +kernel
theorem dX6_lossAt_17 : decode cX6_lossAt 17 = .ok (.ireturn, 1) := by decide +kernel
theorem dX6_becomeLike_0 : decode cX6_becomeLike 0 = .ok (.aload_n 0, 1) := by decide +kernel
