theorem dX6_becomeLike_1 : decode cX6_becomeLike 1 = .ok (.aload_n 1, 1) := by decide +kernel
theorem dX6_becomeLike_2 : decode cX6_becomeLike 2 = .ok (.getfield 9, 3) := by decide +kernel
theorem dX6_becomeLike_5 : decode cX6_becomeLike 5 = .ok (.putfield 9, 3) := by decide +kernel
theorem dX6_becomeLike_8 : decode cX6_becomeLike 8 = .ok (.aload_n 0, 1) := by decide +kernel
theorem dX6_becomeLike_9 : decode cX6_becomeLike 9 = .ok (.aload_n 1, 1) := by decide +kernel
theorem dX6_becomeLike_10 : decode cX6_becomeLike 10 = .ok (.getfield 15, 3) := by decide +kernel
theorem dX6_becomeLike_13 : decode cX6_becomeLike 13 = .ok (.putfield 15, 3) := by decide +kernel
theorem dX6_becomeLike_16 : decode cX6_becomeLike 16 = .ok (.aload_n 0, 1) := by decide +kernel
theorem dX6_becomeLike_17 : decode cX6_becomeLike 17 = .ok (.aload_n 1, 1) := by decide +kernel
theorem dX6_becomeLike_18 : decode cX6_becomeLike 18 = .ok (.getfield 18, 3) := by decide +kernel
theorem dX6_becomeLike_21 : decode cX6_becomeLike 21 = .ok (.putfield 18, 3) := by decide +kernel
theorem dX6_becomeLike_24 : decode cX6_becomeLike 24 = .ok (.aload_n 0, 1) := by decide +kernel
theorem dX6_becomeLike_25 : decode cX6_becomeLike 25 = .ok (.aload_n 1, 1) := by decide +kernel
theorem dX6_becomeLike_26 : decode cX6_becomeLike 26 = .ok (.getfield 21, 3) := by decide +kernel
theorem dX6_becomeLike_29 : decode cX6_becomeLike 29 = .ok (.putfield 21, 3) := by decide +kernel
theorem dX6_becomeLike_32 : decode cX6_becomeLike 32 = .ok (.aload_n 0, 1) := by decide +kernel
theorem dX6_becomeLike_33 : decode cX6_becomeLike 33 = .ok (.aload_n 1, 1) := by decide +kernel
theorem dX6_becomeLike_34 : decode cX6_becomeLike 34 = .ok (.getfield 24, 3) := by decide +kernel
theorem dX6_becomeLike_37 : decode cX6_becomeLike 37 = .ok (.putfield 24, 3) := by decide +kernel
theorem dX6_becomeLike_40 : decode cX6_becomeLike 40 = .ok (.aload_n 0, 1) := by decide +kernel
theorem dX6_becomeLike_41 : decode cX6_becomeLike 41 = .ok (.aload_n 1, 1) := by decide +kernel
theorem dX6_becomeLike_42 : decode cX6_becomeLike 42 = .ok (.getfield 27, 3) := by decide +kernel
theorem dX6_becomeLike_45 : decode cX6_becomeLike 45 = .ok (.putfield 27, 3) := by decide +kernel
theorem dX6_becomeLike_48 : decode cX6_becomeLike 48 = .ok (.return_, 1) := by decide +kernel
theorem dX7_init_0 : decode cX7_init 0 = .ok (.aload_n 0, 1) := by decide +kernel
theorem dX7_init_1 : decode cX7_init 1 = .ok (.invokespecial 1, 3) := by decide +kernel
theorem dX7_init_4 : decode cX7_init 4 = .ok (.aload_n 0, 1) := by decide +kernel
theorem dX7_init_5 : decode cX7_init 5 = .ok (.bipush 8, 2) := by decide +kernel
theorem dX7_init_7 : decode cX7_init 7 = .ok (.anewarray 9, 3) := by decide +kernel
theorem dX7_init_10 : decode cX7_init 10 = .ok (.putfield 11, 3) := by decide +kernel
theorem dX7_init_13 : decode cX7_init 13 = .ok (.aload_n 0, 1) := by decide +kernel
theorem dX7_init_14 : decode cX7_init 14 = .ok (.bipush 10, 2) := by decide +kernel
theorem dX7_init_16 : decode cX7_init 16 = .ok (.anewarray 15, 3) := by decide +kernel
theorem dX7_init_19 : decode cX7_init 19 = .ok (.putfield 17, 3) := by decide +kernel
theorem dX7_init_22 : decode cX7_init 22 = .ok (.aload_n 0, 1) := by decide +kernel
theorem dX7_init_23 : decode cX7_init 23 = .ok (.bipush 10, 2) := by decide +kernel
theorem dX7_init_25 : decode cX7_init 25 = .ok (.anewarray 21, 3) := by decide +kernel
theorem dX7_init_28 : decode cX7_init 28 = .ok (.putfield 23, 3) := by decide +kernel
theorem dX7_init_31 : decode cX7_init 31 = .ok (.aload_n 0, 1) := by decide +kernel
theorem dX7_init_32 : decode cX7_init 32 = .ok (.new 27, 3) := by decide +kernel
theorem dX7_init_35 : decode cX7_init 35 = .ok (.dup, 1) := by decide +kernel
theorem dX7_init_36 : decode cX7_init 36 = .ok (.invokespecial 29, 3) := by decide +kernel
theorem dX7_init_39 : decode cX7_init 39 = .ok (.putfield 30, 3) := by decide +kernel
theorem dX7_init_42 : decode cX7_init 42 = .ok (.aload_n 0, 1) := by decide +kernel
theorem dX7_init_43 : decode cX7_init 43 = .ok (.new 34, 3) := by decide +kernel
theorem dX7_init_46 : decode cX7_init 46 = .ok (.dup, 1) := by decide +kernel
theorem dX7_init_47 : decode cX7_init 47 = .ok (.invokespecial 36, 3) := by decide +kernel
theorem dX7_init_50 : decode cX7_init 50 = .ok (.putfield 37, 3) := by decide +kernel
theorem dX7_init_53 : decode cX7_init 53 = .ok (.aload_n 0, 1) := by decide +kernel
theorem dX7_init_54 : decode cX7_init 54 = .ok (.new 41, 3) := by decide +kernel
theorem dX7_init_57 : decode cX7_init 57 = .ok (.dup, 1) := by decide +kernel
theorem dX7_init_58 : decode cX7_init 58 = .ok (.invokespecial 43, 3) := by decide +kernel
theorem dX7_init_61 : decode cX7_init 61 = .ok (.putfield 44, 3) := by decide +kernel
theorem dX7_init_64 : decode cX7_init 64 = .ok (.aload_n 0, 1) := by decide +kernel
theorem dX7_init_65 : decode cX7_init 65 = .ok (.getstatic 48, 3) := by decide +kernel
theorem dX7_init_68 : decode cX7_init 68 = .ok (.invokevirtual 52, 3) := by decide +kernel
theorem dX7_init_71 : decode cX7_init 71 = .ok (.checkcast 53, 3) := by decide +kernel
theorem dX7_init_74 : decode cX7_init 74 = .ok (.putfield 57, 3) := by decide +kernel
theorem dX7_init_77 : decode cX7_init 77 = .ok (.aload_n 0, 1) := by decide +kernel
theorem dX7_init_78 : decode cX7_init 78 = .ok (.iconst 5, 1) := by decide +kernel
theorem dX7_init_79 : decode cX7_init 79 = .ok (.newarray .int, 2) := by decide +kernel
theorem dX7_init_81 : decode cX7_init 81 = .ok (.putfield 60, 3) := by decide +kernel
theorem dX7_init_84 : decode cX7_init 84 = .ok (.aload_n 0, 1) := by decide +kernel
theorem dX7_init_85 : decode cX7_init 85 = .ok (.bipush 9, 2) := by decide +kernel
theorem dX7_init_87 : decode cX7_init 87 = .ok (.newarray .int, 2) := by decide +kernel
theorem dX7_init_89 : decode cX7_init 89 = .ok (.putfield 63, 3) := by decide +kernel
theorem dX7_init_92 : decode cX7_init 92 = .ok (.aload_n 0, 1) := by decide +kernel
theorem dX7_init_93 : decode cX7_init 93 = .ok (.new 15, 3) := by decide +kernel
theorem dX7_init_96 : decode cX7_init 96 = .ok (.dup, 1) := by decide +kernel
theorem dX7_init_97 : decode cX7_init 97 = .ok (.iconst (-1), 1) := by decide +kernel
theorem dX7_init_98 : decode cX7_init 98 = .ok (.invokespecial 66, 3) := by decide +kernel
theorem dX7_init_101 : decode cX7_init 101 = .ok (.putfield 69, 3) := by decide +kernel
theorem dX7_init_104 : decode cX7_init 104 = .ok (.aload_n 0, 1) := by decide +kernel
theorem dX7_init_105 : decode cX7_init 105 = .ok (.new 41, 3) := by decide +kernel
theorem dX7_init_108 : decode cX7_init 108 = .ok (.dup, 1) := by decide +kernel
theorem dX7_init_109 : decode cX7_init 109 = .ok (.invokespecial 43, 3) := by decide +kernel
theorem dX7_init_112 : decode cX7_init 112 = .ok (.putfield 73, 3) := by decide +kernel
theorem dX7_init_115 : decode cX7_init 115 = .ok (.aload_n 0, 1) := by decide +kernel
theorem dX7_init_116 : decode cX7_init 116 = .ok (.iconst 2, 1) := by decide +kernel
theorem dX7_init_117 : decode cX7_init 117 = .ok (.putfield 76, 3) := by decide +kernel
theorem dX7_init_120 : decode cX7_init 120 = .ok (.aload_n 0, 1) := by decide +kernel
theorem dX7_init_121 : decode cX7_init 121 = .ok (.iconst 0, 1) := by decide +kernel
theorem dX7_init_122 : decode cX7_init 122 = .ok (.putfield 80, 3) := by decide +kernel
theorem dX7_init_125 : decode cX7_init 125 = .ok (.aload_n 0, 1) := by decide +kernel
theorem dX7_init_126 : decode cX7_init 126 = .ok (.iconst 0, 1) := by decide +kernel
theorem dX7_init_127 : decode cX7_init 127 = .ok (.putfield 83, 3) := by decide +kernel
theorem dX7_init_130 : decode cX7_init 130 = .ok (.aload_n 0, 1) := by decide +kernel
theorem dX7_init_131 : decode cX7_init 131 = .ok (.iconst 0, 1) := by decide +kernel
theorem dX7_init_132 : decode cX7_init 132 = .ok (.putfield 86, 3) := by decide +kernel
theorem dX7_init_135 : decode cX7_init 135 = .ok (.aload_n 0, 1) := by decide +kernel
theorem dX7_init_136 : decode cX7_init 136 = .ok (.iconst 0, 1) := by decide +kernel
theorem dX7_init_137 : decode cX7_init 137 = .ok (.putfield 89, 3) := by decide +kernel
theorem dX7_init_140 : decode cX7_init 140 = .ok (.aload_n 0, 1) := by decide +kernel
theorem dX7_init_141 : decode cX7_init 141 = .ok (.iconst 0, 1) := by decide +kernel
theorem dX7_init_142 : decode cX7_init 142 = .ok (.putfield 92, 3) := by decide +kernel
theorem dX7_init_145 : decode cX7_init 145 = .ok (.iconst 0, 1) := by decide +kernel
theorem dX7_init_146 : decode cX7_init 146 = .ok (.istore_n 1, 1) := by decide +kernel
theorem dX7_init_147 : decode cX7_init 147 = .ok (.iload_n 1, 1) := by decide +kernel
theorem dX7_init_148 : decode cX7_init 148 = .ok (.bipush 8, 2) := by decide +kernel
theorem dX7_init_150 : decode cX7_init 150 = .ok (.if_icmp .ge 22, 3) := by decide +kernel
theorem dX7_init_153 : decode cX7_init 153 = .ok (.aload_n 0, 1) := by decide +kernel
theorem dX7_init_154 : decode cX7_init 154 = .ok (.getfield 11, 3) := by decide +kernel
theorem dX7_init_157 : decode cX7_init 157 = .ok (.iload_n 1, 1) := by decide +kernel
theorem dX7_init_158 : decode cX7_init 158 = .ok (.new 9, 3) := by decide +kernel
theorem dX7_init_161 : decode cX7_init 161 = .ok (.dup, 1) := by decide +kernel
theorem dX7_init_162 : decode cX7_init 162 = .ok (.invokespecial 95, 3) := by decide +kernel
theorem dX7_init_165 : decode cX7_init 165 = .ok (.aastore, 1) := by decide +kernel
theorem dX7_init_166 : decode cX7_init 166 = .ok (.iinc 1 1, 3) := by decide +kernel
theorem dX7_init_169 : decode cX7_init 169 = .ok (.goto (-22), 3) := by decide +kernel
theorem dX7_init_172 : decode cX7_init 172 = .ok (.iconst 0, 1) := by decide +kernel
theorem dX7_init_173 : decode cX7_init 173 = .ok (.istore_n 1, 1) := by decide +kernel
theorem dX7_init_174 : decode cX7_init 174 = .ok (.iload_n 1, 1) := by decide +kernel
theorem dX7_init_175 : decode cX7_init 175 = .ok (.bipush 10, 2) := by decide +kernel
theorem dX7_init_177 : decode cX7_init 177 = .ok (.if_icmp .ge 23, 3) := by decide +kernel
theorem dX7_init_180 : decode cX7_init 180 = .ok (.aload_n 0, 1) := by decide +kernel
theorem dX7_init_181 : decode cX7_init 181 = .ok (.getfield 17, 3) := by decide +kernel
theorem dX7_init_184 : decode cX7_init 184 = .ok (.iload_n 1, 1) := by decide +kernel
theorem dX7_init_185 : decode cX7_init 185 = .ok (.new 15, 3) := by decide +kernel
theorem dX7_init_188 : decode cX7_init 188 = .ok (.dup, 1) := by decide +kernel
theorem dX7_init_189 : decode cX7_init 189 = .ok (.iload_n 1, 1) := by decide +kernel
theorem dX7_init_190 : decode cX7_init 190 = .ok (.invokespecial 66, 3) := by decide +kernel
theorem dX7_init_193 : decode cX7_init 193 = .ok (.aastore, 1) := by decide +kernel
theorem dX7_init_194 : decode cX7_init 194 = .ok (.iinc 1 1, 3) := by decide +kernel
theorem dX7_init_197 : decode cX7_init 197 = .ok (.goto (-23), 3) := by decide +kernel
theorem dX7_init_200 : decode cX7_init 200 = .ok (.iconst 0, 1) := by decide +kernel
theorem dX7_init_201 : decode cX7_init 201 = .ok (.istore_n 1, 1) := by decide +kernel
theorem dX7_init_202 : decode cX7_init 202 = .ok (.iload_n 1, 1) := by decide +kernel
theorem dX7_init_203 : decode cX7_init 203 = .ok (.bipush 10, 2) := by decide +kernel
theorem dX7_init_205 : decode cX7_init 205 = .ok (.if_icmp .ge 22, 3) := by decide +kernel
theorem dX7_init_208 : decode cX7_init 208 = .ok (.aload_n 0, 1) := by decide +kernel
theorem dX7_init_209 : decode cX7_init 209 = .ok (.getfield 23, 3) := by decide +kernel
theorem dX7_init_212 : decode cX7_init 212 = .ok (.iload_n 1, 1) := by decide +kernel
theorem dX7_init_213 : decode cX7_init 213 = .ok (.new 21, 3) := by decide +kernel
theorem dX7_init_216 : decode cX7_init 216 = .ok (.dup, 1) := by decide +kernel
theorem dX7_init_217 : decode cX7_init 217 = .ok (.invokespecial 96, 3) := by decide +kernel
theorem dX7_init_220 : decode cX7_init 220 = .ok (.aastore, 1) := by decide +kernel
theorem dX7_init_221 : decode cX7_init 221 = .ok (.iinc 1 1, 3) := by decide +kernel
theorem dX7_init_224 : decode cX7_init 224 = .ok (.goto (-22), 3) := by decide +kernel
theorem dX7_init_227 : decode cX7_init 227 = .ok (.aload_n 0, 1) := by decide +kernel
theorem dX7_init_228 : decode cX7_init 228 = .ok (.getfield 11, 3) := by decide +kernel
theorem dX7_init_231 : decode cX7_init 231 = .ok (.iconst 0, 1) := by decide +kernel
theorem dX7_init_232 : decode cX7_init 232 = .ok (.aaload, 1) := by decide +kernel
theorem dX7_init_233 : decode cX7_init 233 = .ok (.iconst 4, 1) := by decide +kernel
theorem dX7_init_234 : decode cX7_init 234 = .ok (.putfield 97, 3) := by decide +kernel
theorem dX7_init_237 : decode cX7_init 237 = .ok (.return_, 1) := by decide +kernel
theorem dX7_station_0 : decode cX7_station 0 = .ok (.iload_n 1, 1) := by decide +kernel
theorem dX7_station_1 : decode cX7_station 1 = .ok (.iconst 1, 1) := by decide +kernel
theorem dX7_station_2 : decode cX7_station 2 = .ok (.bipush 12, 2) := by decide +kernel
theorem dX7_station_4 : decode cX7_station 4 = .ok (.invokestatic 100, 3) := by decide +kernel
theorem dX7_station_7 : decode cX7_station 7 = .ok (.ifCond .ne 10, 3) := by decide +kernel
theorem dX7_station_10 : decode cX7_station 10 = .ok (.aload_n 0, 1) := by decide +kernel
theorem dX7_station_11 : decode cX7_station 11 = .ok (.bipush (-7), 2) := by decide +kernel
theorem dX7_station_13 : decode cX7_station 13 = .ok (.invokevirtual 104, 3) := by decide +kernel
theorem dX7_station_16 : decode cX7_station 16 = .ok (.ireturn, 1) := by decide +kernel
theorem dX7_station_17 : decode cX7_station 17 = .ok (.aload_n 0, 1) := by decide +kernel
theorem dX7_station_18 : decode cX7_station 18 = .ok (.getfield 76, 3) := by decide +kernel
theorem dX7_station_21 : decode cX7_station 21 = .ok (.bipush 8, 2) := by decide +kernel
theorem dX7_station_23 : decode cX7_station 23 = .ok (.if_icmp .lt 10, 3) := by decide +kernel
theorem dX7_station_26 : decode cX7_station 26 = .ok (.aload_n 0, 1) := by decide +kernel
theorem dX7_station_27 : decode cX7_station 27 = .ok (.bipush (-8), 2) := by decide +kernel
theorem dX7_station_29 : decode cX7_station 29 = .ok (.invokevirtual 104, 3) := by decide +kernel
theorem dX7_station_32 : decode cX7_station 32 = .ok (.ireturn, 1) := by decide +kernel
theorem dX7_station_33 : decode cX7_station 33 = .ok (.aload_n 0, 1) := by decide +kernel
theorem dX7_station_34 : decode cX7_station 34 = .ok (.getfield 11, 3) := by decide +kernel
theorem dX7_station_37 : decode cX7_station 37 = .ok (.aload_n 0, 1) := by decide +kernel
theorem dX7_station_38 : decode cX7_station 38 = .ok (.getfield 76, 3) := by decide +kernel
theorem dX7_station_41 : decode cX7_station 41 = .ok (.iconst 1, 1) := by decide +kernel
theorem dX7_station_42 : decode cX7_station 42 = .ok (.isub, 1) := by decide +kernel
theorem dX7_station_43 : decode cX7_station 43 = .ok (.aaload, 1) := by decide +kernel
theorem dX7_station_44 : decode cX7_station 44 = .ok (.iload_n 1, 1) := by decide +kernel
theorem dX7_station_45 : decode cX7_station 45 = .ok (.putfield 97, 3) := by decide +kernel
theorem dX7_station_48 : decode cX7_station 48 = .ok (.aload_n 0, 1) := by decide +kernel
theorem dX7_station_49 : decode cX7_station 49 = .ok (.dup, 1) := by decide +kernel
theorem dX7_station_50 : decode cX7_station 50 = .ok (.getfield 76, 3) := by decide +kernel
theorem dX7_station_53 : decode cX7_station 53 = .ok (.iconst 1, 1) := by decide +kernel
theorem dX7_station_54 : decode cX7_station 54 = .ok (.iadd, 1) := by decide +kernel
theorem dX7_station_55 : decode cX7_station 55 = .ok (.putfield 76, 3) := by decide +kernel
theorem dX7_station_58 : decode cX7_station 58 = .ok (.aload_n 0, 1) := by decide +kernel
theorem dX7_station_59 : decode cX7_station 59 = .ok (.getfield 76, 3) := by decide +kernel
theorem dX7_station_62 : decode cX7_station 62 = .ok (.ireturn, 1) := by decide +kernel
theorem dX7_stock_0 : decode cX7_stock 0 = .ok (.aload_n 0, 1) := by decide +kernel
theorem dX7_stock_1 : decode cX7_stock 1 = .ok (.iload_n 1, 1) := by decide +kernel
theorem dX7_stock_2 : decode cX7_stock 2 = .ok (.invokevirtual 108, 3) := by decide +kernel
theorem dX7_stock_5 : decode cX7_stock 5 = .ok (.ifCond .ne 10, 3) := by decide +kernel
theorem dX7_stock_8 : decode cX7_stock 8 = .ok (.aload_n 0, 1) := by decide +kernel
theorem dX7_stock_9 : decode cX7_stock 9 = .ok (.bipush (-3), 2) := by decide +kernel
theorem dX7_stock_11 : decode cX7_stock 11 = .ok (.invokevirtual 104, 3) := by decide +kernel
theorem dX7_stock_14 : decode cX7_stock 14 = .ok (.ireturn, 1) := by decide +kernel
theorem dX7_stock_15 : decode cX7_stock 15 = .ok (.iload_n 2, 1) := by decide +kernel
theorem dX7_stock_16 : decode cX7_stock 16 = .ok (.sipush (-10000), 3) := by decide +kernel
theorem dX7_stock_19 : decode cX7_stock 19 = .ok (.sipush 10000, 3) := by decide +kernel
theorem dX7_stock_22 : decode cX7_stock 22 = .ok (.invokestatic 100, 3) := by decide +kernel
theorem dX7_stock_25 : decode cX7_stock 25 = .ok (.ifCond .eq 23, 3) := by decide +kernel
theorem dX7_stock_28 : decode cX7_stock 28 = .ok (.aload_n 0, 1) := by decide +kernel
theorem dX7_stock_29 : decode cX7_stock 29 = .ok (.getfield 44, 3) := by decide +kernel
theorem dX7_stock_32 : decode cX7_stock 32 = .ok (.getfield 112, 3) := by decide +kernel
theorem dX7_stock_35 : decode cX7_stock 35 = .ok (.iload_n 1, 1) := by decide +kernel
theorem dX7_stock_36 : decode cX7_stock 36 = .ok (.iaload, 1) := by decide +kernel
theorem dX7_stock_37 : decode cX7_stock 37 = .ok (.iload_n 2, 1) := by decide +kernel
theorem dX7_stock_38 : decode cX7_stock 38 = .ok (.iadd, 1) := by decide +kernel
theorem dX7_stock_39 : decode cX7_stock 39 = .ok (.iconst 0, 1) := by decide +kernel
theorem dX7_stock_40 : decode cX7_stock 40 = .ok (.ldc 115, 2) := by decide +kernel
theorem dX7_stock_42 : decode cX7_stock 42 = .ok (.invokestatic 100, 3) := by decide +kernel
theorem dX7_stock_45 : decode cX7_stock 45 = .ok (.ifCond .ne 10, 3) := by decide +kernel
theorem dX7_stock_48 : decode cX7_stock 48 = .ok (.aload_n 0, 1) := by decide +kernel
theorem dX7_stock_49 : decode cX7_stock 49 = .ok (.bipush (-7), 2) := by decide +kernel
theorem dX7_stock_51 : decode cX7_stock 51 = .ok (.invokevirtual 104, 3) := by decide +kernel
theorem dX7_stock_54 : decode cX7_stock 54 = .ok (.ireturn, 1) := by decide +kernel
theorem dX7_stock_55 : decode cX7_stock 55 = .ok (.aload_n 0, 1) := by decide +kernel
theorem dX7_stock_56 : decode cX7_stock 56 = .ok (.getfield 44, 3) := by decide +kernel
theorem dX7_stock_59 : decode cX7_stock 59 = .ok (.getfield 112, 3) := by decide +kernel
theorem dX7_stock_62 : decode cX7_stock 62 = .ok (.iload_n 1, 1) := by decide +kernel
theorem dX7_stock_63 : decode cX7_stock 63 = .ok (.dup2, 1) := by decide +kernel
theorem dX7_stock_64 : decode cX7_stock 64 = .ok (.iaload, 1) := by decide +kernel
theorem dX7_stock_65 : decode cX7_stock 65 = .ok (.iload_n 2, 1) := by decide +kernel
theorem dX7_stock_66 : decode cX7_stock 66 = .ok (.iadd, 1) := by decide +kernel
theorem dX7_stock_67 : decode cX7_stock 67 = .ok (.iastore, 1) := by decide +kernel
theorem dX7_stock_68 : decode cX7_stock 68 = .ok (.aload_n 0, 1) := by decide +kernel
theorem dX7_stock_69 : decode cX7_stock 69 = .ok (.getfield 44, 3) := by decide +kernel
theorem dX7_stock_72 : decode cX7_stock 72 = .ok (.getfield 112, 3) := by decide +kernel
theorem dX7_stock_75 : decode cX7_stock 75 = .ok (.iload_n 1, 1) := by decide +kernel
theorem dX7_stock_76 : decode cX7_stock 76 = .ok (.iaload, 1) := by decide +kernel
theorem dX7_stock_77 : decode cX7_stock 77 = .ok (.ireturn, 1) := by decide +kernel
theorem dX7_gang_0 : decode cX7_gang 0 = .ok (.aload_n 0, 1) := by decide +kernel
theorem dX7_gang_1 : decode cX7_gang 1 = .ok (.iload_n 1, 1) := by decide +kernel
theorem dX7_gang_2 : decode cX7_gang 2 = .ok (.invokevirtual 108, 3) := by decide +kernel
theorem dX7_gang_5 : decode cX7_gang 5 = .ok (.ifCond .ne 10, 3) := by decide +kernel
theorem dX7_gang_8 : decode cX7_gang 8 = .ok (.aload_n 0, 1) := by decide +kernel
theorem dX7_gang_9 : decode cX7_gang 9 = .ok (.bipush (-3), 2) := by decide +kernel
theorem dX7_gang_11 : decode cX7_gang 11 = .ok (.invokevirtual 104, 3) := by decide +kernel
theorem dX7_gang_14 : decode cX7_gang 14 = .ok (.ireturn, 1) := by decide +kernel
theorem dX7_gang_15 : decode cX7_gang 15 = .ok (.iload_n 2, 1) := by decide +kernel
theorem dX7_gang_16 : decode cX7_gang 16 = .ok (.iconst 0, 1) := by decide +kernel
theorem dX7_gang_17 : decode cX7_gang 17 = .ok (.bipush 100, 2) := by decide +kernel
theorem dX7_gang_19 : decode cX7_gang 19 = .ok (.invokestatic 100, 3) := by decide +kernel
theorem dX7_gang_22 : decode cX7_gang 22 = .ok (.ifCond .ne 10, 3) := by decide +kernel
theorem dX7_gang_25 : decode cX7_gang 25 = .ok (.aload_n 0, 1) := by decide +kernel
theorem dX7_gang_26 : decode cX7_gang 26 = .ok (.bipush (-7), 2) := by decide +kernel
theorem dX7_gang_28 : decode cX7_gang 28 = .ok (.invokevirtual 104, 3) := by decide +kernel
theorem dX7_gang_31 : decode cX7_gang 31 = .ok (.ireturn, 1) := by decide +kernel
theorem dX7_gang_32 : decode cX7_gang 32 = .ok (.aload_n 0, 1) := by decide +kernel
theorem dX7_gang_33 : decode cX7_gang 33 = .ok (.getfield 11, 3) := by decide +kernel
theorem dX7_gang_36 : decode cX7_gang 36 = .ok (.iload_n 1, 1) := by decide +kernel
theorem dX7_gang_37 : decode cX7_gang 37 = .ok (.aaload, 1) := by decide +kernel
theorem dX7_gang_38 : decode cX7_gang 38 = .ok (.getfield 116, 3) := by decide +kernel
theorem dX7_gang_41 : decode cX7_gang 41 = .ok (.istore_n 3, 1) := by decide +kernel
theorem dX7_gang_42 : decode cX7_gang 42 = .ok (.aload_n 0, 1) := by decide +kernel
theorem dX7_gang_43 : decode cX7_gang 43 = .ok (.getfield 11, 3) := by decide +kernel
theorem dX7_gang_46 : decode cX7_gang 46 = .ok (.iload_n 1, 1) := by decide +kernel
theorem dX7_gang_47 : decode cX7_gang 47 = .ok (.aaload, 1) := by decide +kernel
theorem dX7_gang_48 : decode cX7_gang 48 = .ok (.iload_n 2, 1) := by decide +kernel
theorem dX7_gang_49 : decode cX7_gang 49 = .ok (.putfield 116, 3) := by decide +kernel
theorem dX7_gang_52 : decode cX7_gang 52 = .ok (.iload_n 3, 1) := by decide +kernel
theorem dX7_gang_53 : decode cX7_gang 53 = .ok (.ireturn, 1) := by decide +kernel
theorem dX7_price_0 : decode cX7_price 0 = .ok (.aload_n 0, 1) := by decide +kernel
theorem dX7_price_1 : decode cX7_price 1 = .ok (.iload_n 1, 1) := by decide +kernel
theorem dX7_price_2 : decode cX7_price 2 = .ok (.invokevirtual 108, 3) := by decide +kernel
theorem dX7_price_5 : decode cX7_price 5 = .ok (.ifCond .ne 10, 3) := by decide +kernel
theorem dX7_price_8 : decode cX7_price 8 = .ok (.aload_n 0, 1) := by decide +kernel
theorem dX7_price_9 : decode cX7_price 9 = .ok (.bipush (-3), 2) := by decide +kernel
theorem dX7_price_11 : decode cX7_price 11 = .ok (.invokevirtual 104, 3) := by decide +kernel
theorem dX7_price_14 : decode cX7_price 14 = .ok (.ireturn, 1) := by decide +kernel
theorem dX7_price_15 : decode cX7_price 15 = .ok (.iload_n 2, 1) := by decide +kernel
theorem dX7_price_16 : decode cX7_price 16 = .ok (.iconst 0, 1) := by decide +kernel
theorem dX7_price_17 : decode cX7_price 17 = .ok (.bipush 99, 2) := by decide +kernel
theorem dX7_price_19 : decode cX7_price 19 = .ok (.invokestatic 100, 3) := by decide +kernel
theorem dX7_price_22 : decode cX7_price 22 = .ok (.ifCond .ne 10, 3) := by decide +kernel
theorem dX7_price_25 : decode cX7_price 25 = .ok (.aload_n 0, 1) := by decide +kernel
theorem dX7_price_26 : decode cX7_price 26 = .ok (.bipush (-7), 2) := by decide +kernel
theorem dX7_price_28 : decode cX7_price 28 = .ok (.invokevirtual 104, 3) := by decide +kernel
theorem dX7_price_31 : decode cX7_price 31 = .ok (.ireturn, 1) := by decide +kernel
theorem dX7_price_32 : decode cX7_price 32 = .ok (.aload_n 0, 1) := by decide +kernel
theorem dX7_price_33 : decode cX7_price 33 = .ok (.getfield 11, 3) := by decide +kernel
theorem dX7_price_36 : decode cX7_price 36 = .ok (.iload_n 1, 1) := by decide +kernel
theorem dX7_price_37 : decode cX7_price 37 = .ok (.aaload, 1) := by decide +kernel
theorem dX7_price_38 : decode cX7_price 38 = .ok (.getfield 119, 3) := by decide +kernel
theorem dX7_price_41 : decode cX7_price 41 = .ok (.istore_n 3, 1) := by decide +kernel
theorem dX7_price_42 : decode cX7_price 42 = .ok (.aload_n 0, 1) := by decide +kernel
theorem dX7_price_43 : decode cX7_price 43 = .ok (.getfield 11, 3) := by decide +kernel
theorem dX7_price_46 : decode cX7_price 46 = .ok (.iload_n 1, 1) := by decide +kernel
theorem dX7_price_47 : decode cX7_price 47 = .ok (.aaload, 1) := by decide +kernel
theorem dX7_price_48 : decode cX7_price 48 = .ok (.iload_n 2, 1) := by decide +kernel
theorem dX7_price_49 : decode cX7_price 49 = .ok (.putfield 119, 3) := by decide +kernel
theorem dX7_price_52 : decode cX7_price 52 = .ok (.iload_n 3, 1) := by decide +kernel
theorem dX7_price_53 : decode cX7_price 53 = .ok (.ireturn, 1) := by decide +kernel
theorem dX7_weather_0 : decode cX7_weather 0 = .ok (.aload_n 0, 1) := by decide +kernel
theorem dX7_weather_1 : decode cX7_weather 1 = .ok (.iload_n 1, 1) := by decide +kernel
theorem dX7_weather_2 : decode cX7_weather 2 = .ok (.invokevirtual 108, 3) := by decide +kernel
theorem dX7_weather_5 : decode cX7_weather 5 = .ok (.ifCond .eq 13, 3) := by decide +kernel
theorem dX7_weather_8 : decode cX7_weather 8 = .ok (.iload_n 2, 1) := by decide +kernel
theorem dX7_weather_9 : decode cX7_weather 9 = .ok (.iconst 0, 1) := by decide +kernel
theorem dX7_weather_10 : decode cX7_weather 10 = .ok (.bipush 47, 2) := by decide +kernel
theorem dX7_weather_12 : decode cX7_weather 12 = .ok (.invokestatic 100, 3) := by decide +kernel
theorem dX7_weather_15 : decode cX7_weather 15 = .ok (.ifCond .ne 10, 3) := by decide +kernel
theorem dX7_weather_18 : decode cX7_weather 18 = .ok (.aload_n 0, 1) := by decide +kernel
theorem dX7_weather_19 : decode cX7_weather 19 = .ok (.bipush (-3), 2) := by decide +kernel
theorem dX7_weather_21 : decode cX7_weather 21 = .ok (.invokevirtual 122, 3) := by decide +kernel
theorem dX7_weather_24 : decode cX7_weather 24 = .ok (.ireturn, 1) := by decide +kernel
theorem dX7_weather_25 : decode cX7_weather 25 = .ok (.iload_n 3, 1) := by decide +kernel
theorem dX7_weather_26 : decode cX7_weather 26 = .ok (.sipush (-9999), 3) := by decide +kernel
theorem dX7_weather_29 : decode cX7_weather 29 = .ok (.if_icmp .eq 17, 3) := by decide +kernel
theorem dX7_weather_32 : decode cX7_weather 32 = .ok (.iload_n 3, 1) := by decide +kernel
theorem dX7_weather_33 : decode cX7_weather 33 = .ok (.invokestatic 125, 3) := by decide +kernel
theorem dX7_weather_36 : decode cX7_weather 36 = .ok (.ifCond .ne 10, 3) := by decide +kernel
theorem dX7_weather_39 : decode cX7_weather 39 = .ok (.aload_n 0, 1) := by decide +kernel
theorem dX7_weather_40 : decode cX7_weather 40 = .ok (.bipush (-7), 2) := by decide +kernel
theorem dX7_weather_42 : decode cX7_weather 42 = .ok (.invokevirtual 122, 3) := by decide +kernel
theorem dX7_weather_45 : decode cX7_weather 45 = .ok (.ireturn, 1) := by decide +kernel
theorem dX7_weather_46 : decode cX7_weather 46 = .ok (.aload_n 0, 1) := by decide +kernel
theorem dX7_weather_47 : decode cX7_weather 47 = .ok (.getfield 11, 3) := by decide +kernel
theorem dX7_weather_50 : decode cX7_weather 50 = .ok (.iload_n 1, 1) := by decide +kernel
theorem dX7_weather_51 : decode cX7_weather 51 = .ok (.aaload, 1) := by decide +kernel
theorem dX7_weather_52 : decode cX7_weather 52 = .ok (.astore 4, 2) := by decide +kernel
theorem dX7_weather_54 : decode cX7_weather 54 = .ok (.aload 4, 2) := by decide +kernel
theorem dX7_weather_56 : decode cX7_weather 56 = .ok (.getfield 128, 3) := by decide +kernel
theorem dX7_weather_59 : decode cX7_weather 59 = .ok (.iload_n 2, 1) := by decide +kernel
theorem dX7_weather_60 : decode cX7_weather 60 = .ok (.iaload, 1) := by decide +kernel
theorem dX7_weather_61 : decode cX7_weather 61 = .ok (.istore 5, 2) := by decide +kernel
theorem dX7_weather_63 : decode cX7_weather 63 = .ok (.aload 4, 2) := by decide +kernel
theorem dX7_weather_65 : decode cX7_weather 65 = .ok (.getfield 128, 3) := by decide +kernel
theorem dX7_weather_68 : decode cX7_weather 68 = .ok (.iload_n 2, 1) := by decide +kernel
theorem dX7_weather_69 : decode cX7_weather 69 = .ok (.iload_n 3, 1) := by decide +kernel
theorem dX7_weather_70 : decode cX7_weather 70 = .ok (.iastore, 1) := by decide +kernel
theorem dX7_weather_71 : decode cX7_weather 71 = .ok (.aload 4, 2) := by decide +kernel
theorem dX7_weather_73 : decode cX7_weather 73 = .ok (.invokevirtual 131, 3) := by decide +kernel
theorem dX7_weather_76 : decode cX7_weather 76 = .ok (.iload 5, 2) := by decide +kernel
theorem dX7_weather_78 : decode cX7_weather 78 = .ok (.ireturn, 1) := by decide +kernel
theorem dX7_read_0 : decode cX7_read 0 = .ok (.aload_n 0, 1) := by decide +kernel
theorem dX7_read_1 : decode cX7_read 1 = .ok (.iload_n 1, 1) := by decide +kernel
theorem dX7_read_2 : decode cX7_read 2 = .ok (.invokevirtual 108, 3) := by decide +kernel
theorem dX7_read_5 : decode cX7_read 5 = .ok (.ifCond .ne 10, 3) := by decide +kernel
theorem dX7_read_8 : decode cX7_read 8 = .ok (.aload_n 0, 1) := by decide +kernel
theorem dX7_read_9 : decode cX7_read 9 = .ok (.bipush (-3), 2) := by decide +kernel
theorem dX7_read_11 : decode cX7_read 11 = .ok (.invokevirtual 104, 3) := by decide +kernel
theorem dX7_read_14 : decode cX7_read 14 = .ok (.ireturn, 1) := by decide +kernel
theorem dX7_read_15 : decode cX7_read 15 = .ok (.aload_n 0, 1) := by decide +kernel
theorem dX7_read_16 : decode cX7_read 16 = .ok (.getfield 37, 3) := by decide +kernel
theorem dX7_read_19 : decode cX7_read 19 = .ok (.getfield 134, 3) := by decide +kernel
theorem dX7_read_22 : decode cX7_read 22 = .ok (.ifCond .ne 10, 3) := by decide +kernel
theorem dX7_read_25 : decode cX7_read 25 = .ok (.aload_n 0, 1) := by decide +kernel
theorem dX7_read_26 : decode cX7_read 26 = .ok (.bipush (-2), 2) := by decide +kernel
theorem dX7_read_28 : decode cX7_read 28 = .ok (.invokevirtual 104, 3) := by decide +kernel
theorem dX7_read_31 : decode cX7_read 31 = .ok (.ireturn, 1) := by decide +kernel
theorem dX7_read_32 : decode cX7_read 32 = .ok (.aload_n 0, 1) := by decide +kernel
theorem dX7_read_33 : decode cX7_read 33 = .ok (.getfield 11, 3) := by decide +kernel
theorem dX7_read_36 : decode cX7_read 36 = .ok (.iload_n 1, 1) := by decide +kernel
theorem dX7_read_37 : decode cX7_read 37 = .ok (.aaload, 1) := by decide +kernel
theorem dX7_read_38 : decode cX7_read 38 = .ok (.astore_n 2, 1) := by decide +kernel
theorem dX7_read_39 : decode cX7_read 39 = .ok (.iconst 0, 1) := by decide +kernel
theorem dX7_read_40 : decode cX7_read 40 = .ok (.istore_n 3, 1) := by decide +kernel
theorem dX7_read_41 : decode cX7_read 41 = .ok (.iconst 0, 1) := by decide +kernel
theorem dX7_read_42 : decode cX7_read 42 = .ok (.istore 4, 2) := by decide +kernel
theorem dX7_read_44 : decode cX7_read 44 = .ok (.iload 4, 2) := by decide +kernel
theorem dX7_read_46 : decode cX7_read 46 = .ok (.bipush 48, 2) := by decide +kernel
theorem dX7_read_48 : decode cX7_read 48 = .ok (.if_icmp .ge 60, 3) := by decide +kernel
theorem dX7_read_51 : decode cX7_read 51 = .ok (.aload_n 0, 1) := by decide +kernel
theorem dX7_read_52 : decode cX7_read 52 = .ok (.getfield 37, 3) := by decide +kernel
theorem dX7_read_55 : decode cX7_read 55 = .ok (.getfield 138, 3) := by decide +kernel
theorem dX7_read_58 : decode cX7_read 58 = .ok (.iload 4, 2) := by decide +kernel
theorem dX7_read_60 : decode cX7_read 60 = .ok (.iaload, 1) := by decide +kernel
theorem dX7_read_61 : decode cX7_read 61 = .ok (.istore 5, 2) := by decide +kernel
theorem dX7_read_63 : decode cX7_read 63 = .ok (.aload_n 2, 1) := by decide +kernel
theorem dX7_read_64 : decode cX7_read 64 = .ok (.getfield 128, 3) := by decide +kernel
theorem dX7_read_67 : decode cX7_read 67 = .ok (.iload 4, 2) := by decide +kernel
theorem dX7_read_69 : decode cX7_read 69 = .ok (.iload 5, 2) := by decide +kernel
theorem dX7_read_71 : decode cX7_read 71 = .ok (.invokestatic 125, 3) := by decide +kernel
theorem dX7_read_74 : decode cX7_read 74 = .ok (.ifCond .eq 8, 3) := by decide +kernel
theorem dX7_read_77 : decode cX7_read 77 = .ok (.iload 5, 2) := by decide +kernel
theorem dX7_read_79 : decode cX7_read 79 = .ok (.goto 6, 3) := by decide +kernel
theorem dX7_read_82 : decode cX7_read 82 = .ok (.sipush (-9999), 3) := by decide +kernel
theorem dX7_read_85 : decode cX7_read 85 = .ok (.iastore, 1) := by decide +kernel
theorem dX7_read_86 : decode cX7_read 86 = .ok (.iload_n 3, 1) := by decide +kernel
theorem dX7_read_87 : decode cX7_read 87 = .ok (.iload 5, 2) := by decide +kernel
theorem dX7_read_89 : decode cX7_read 89 = .ok (.invokestatic 125, 3) := by decide +kernel
theorem dX7_read_92 : decode cX7_read 92 = .ok (.ifCond .eq 7, 3) := by decide +kernel
theorem dX7_read_95 : decode cX7_read 95 = .ok (.iconst 1, 1) := by decide +kernel
theorem dX7_read_96 : decode cX7_read 96 = .ok (.goto 4, 3) := by decide +kernel
theorem dX7_read_99 : decode cX7_read 99 = .ok (.iconst 0, 1) := by decide +kernel
theorem dX7_read_100 : decode cX7_read 100 = .ok (.iadd, 1) := by decide +kernel
theorem dX7_read_101 : decode cX7_read 101 = .ok (.istore_n 3, 1) := by decide +kernel
theorem dX7_read_102 : decode cX7_read 102 = .ok (.iinc 4 1, 3) := by decide +kernel
theorem dX7_read_105 : decode cX7_read 105 = .ok (.goto (-61), 3) := by decide +kernel
theorem dX7_read_108 : decode cX7_read 108 = .ok (.aload_n 2, 1) := by decide +kernel
theorem dX7_read_109 : decode cX7_read 109 = .ok (.invokevirtual 131, 3) := by decide +kernel
theorem dX7_read_112 : decode cX7_read 112 = .ok (.iload_n 3, 1) := by decide +kernel
theorem dX7_read_113 : decode cX7_read 113 = .ok (.ireturn, 1) := by decide +kernel
theorem dX7_out_0 : decode cX7_out 0 = .ok (.aload_n 0, 1) := by decide +kernel
theorem dX7_out_1 : decode cX7_out 1 = .ok (.iload_n 1, 1) := by decide +kernel
theorem dX7_out_2 : decode cX7_out 2 = .ok (.invokevirtual 108, 3) := by decide +kernel
theorem dX7_out_5 : decode cX7_out 5 = .ok (.ifCond .eq 7, 3) := by decide +kernel
theorem dX7_out_8 : decode cX7_out 8 = .ok (.iload_n 2, 1) := by decide +kernel
theorem dX7_out_9 : decode cX7_out 9 = .ok (.ifCond .ge 10, 3) := by decide +kernel
theorem dX7_out_12 : decode cX7_out 12 = .ok (.aload_n 0, 1) := by decide +kernel
theorem dX7_out_13 : decode cX7_out 13 = .ok (.bipush (-3), 2) := by decide +kernel
theorem dX7_out_15 : decode cX7_out 15 = .ok (.invokevirtual 122, 3) := by decide +kernel
theorem dX7_out_18 : decode cX7_out 18 = .ok (.ireturn, 1) := by decide +kernel
theorem dX7_out_19 : decode cX7_out 19 = .ok (.aload_n 0, 1) := by decide +kernel
theorem dX7_out_20 : decode cX7_out 20 = .ok (.getfield 11, 3) := by decide +kernel
theorem dX7_out_23 : decode cX7_out 23 = .ok (.iload_n 1, 1) := by decide +kernel
theorem dX7_out_24 : decode cX7_out 24 = .ok (.aaload, 1) := by decide +kernel
theorem dX7_out_25 : decode cX7_out 25 = .ok (.iload_n 2, 1) := by decide +kernel
theorem dX7_out_26 : decode cX7_out 26 = .ok (.invokevirtual 141, 3) := by decide +kernel
theorem dX7_out_29 : decode cX7_out 29 = .ok (.ireturn, 1) := by decide +kernel
theorem dX7_loss_0 : decode cX7_loss 0 = .ok (.iload_n 1, 1) := by decide +kernel
theorem dX7_loss_1 : decode cX7_loss 1 = .ok (.iconst 0, 1) := by decide +kernel
theorem dX7_loss_2 : decode cX7_loss 2 = .ok (.aload_n 0, 1) := by decide +kernel
theorem dX7_loss_3 : decode cX7_loss 3 = .ok (.getfield 57, 3) := by decide +kernel
theorem dX7_loss_6 : decode cX7_loss 6 = .ok (.arraylength, 1) := by decide +kernel
theorem dX7_loss_7 : decode cX7_loss 7 = .ok (.iconst 1, 1) := by decide +kernel
theorem dX7_loss_8 : decode cX7_loss 8 = .ok (.isub, 1) := by decide +kernel
theorem dX7_loss_9 : decode cX7_loss 9 = .ok (.invokestatic 100, 3) := by decide +kernel
theorem dX7_loss_12 : decode cX7_loss 12 = .ok (.ifCond .ne 10, 3) := by decide +kernel
theorem dX7_loss_15 : decode cX7_loss 15 = .ok (.aload_n 0, 1) := by decide +kernel
theorem dX7_loss_16 : decode cX7_loss 16 = .ok (.bipush (-3), 2) := by decide +kernel
theorem dX7_loss_18 : decode cX7_loss 18 = .ok (.invokevirtual 104, 3) := by decide +kernel
theorem dX7_loss_21 : decode cX7_loss 21 = .ok (.ireturn, 1) := by decide +kernel
theorem dX7_loss_22 : decode cX7_loss 22 = .ok (.iload_n 2, 1) := by decide +kernel
theorem dX7_loss_23 : decode cX7_loss 23 = .ok (.iconst 0, 1) := by decide +kernel
theorem dX7_loss_24 : decode cX7_loss 24 = .ok (.sipush 999, 3) := by decide +kernel
theorem dX7_loss_27 : decode cX7_loss 27 = .ok (.invokestatic 100, 3) := by decide +kernel
theorem dX7_loss_30 : decode cX7_loss 30 = .ok (.ifCond .ne 10, 3) := by decide +kernel
theorem dX7_loss_33 : decode cX7_loss 33 = .ok (.aload_n 0, 1) := by decide +kernel
theorem dX7_loss_34 : decode cX7_loss 34 = .ok (.bipush (-7), 2) := by decide +kernel
theorem dX7_loss_36 : decode cX7_loss 36 = .ok (.invokevirtual 104, 3) := by decide +kernel
theorem dX7_loss_39 : decode cX7_loss 39 = .ok (.ireturn, 1) := by decide +kernel
theorem dX7_loss_40 : decode cX7_loss 40 = .ok (.aload_n 0, 1) := by decide +kernel
theorem dX7_loss_41 : decode cX7_loss 41 = .ok (.getfield 57, 3) := by decide +kernel
theorem dX7_loss_44 : decode cX7_loss 44 = .ok (.iload_n 1, 1) := by decide +kernel
theorem dX7_loss_45 : decode cX7_loss 45 = .ok (.iaload, 1) := by decide +kernel
theorem dX7_loss_46 : decode cX7_loss 46 = .ok (.istore_n 3, 1) := by decide +kernel
theorem dX7_loss_47 : decode cX7_loss 47 = .ok (.aload_n 0, 1) := by decide +kernel
theorem dX7_loss_48 : decode cX7_loss 48 = .ok (.getfield 57, 3) := by decide +kernel
theorem dX7_loss_51 : decode cX7_loss 51 = .ok (.iload_n 1, 1) := by decide +kernel
theorem dX7_loss_52 : decode cX7_loss 52 = .ok (.iload_n 2, 1) := by decide +kernel
theorem dX7_loss_53 : decode cX7_loss 53 = .ok (.iastore, 1) := by decide +kernel
theorem dX7_loss_54 : decode cX7_loss 54 = .ok (.iload_n 3, 1) := by decide +kernel
theorem dX7_loss_55 : decode cX7_loss 55 = .ok (.ireturn, 1) := by decide +kernel
theorem dX7_car_0 : decode cX7_car 0 = .ok (.aload_n 0, 1) := by decide +kernel
theorem dX7_car_1 : decode cX7_car 1 = .ok (.iload_n 1, 1) := by decide +kernel
theorem dX7_car_2 : decode cX7_car 2 = .ok (.invokevirtual 108, 3) := by decide +kernel
theorem dX7_car_5 : decode cX7_car 5 = .ok (.ifCond .ne 10, 3) := by decide +kernel
theorem dX7_car_8 : decode cX7_car 8 = .ok (.aload_n 0, 1) := by decide +kernel
theorem dX7_car_9 : decode cX7_car 9 = .ok (.bipush (-3), 2) := by decide +kernel
theorem dX7_car_11 : decode cX7_car 11 = .ok (.invokevirtual 104, 3) := by decide +kernel
theorem dX7_car_14 : decode cX7_car 14 = .ok (.ireturn, 1) := by decide +kernel
theorem dX7_car_15 : decode cX7_car 15 = .ok (.iload_n 2, 1) := by decide +kernel
theorem dX7_car_16 : decode cX7_car 16 = .ok (.iconst 1, 1) := by decide +kernel
theorem dX7_car_17 : decode cX7_car 17 = .ok (.bipush 40, 2) := by decide +kernel
theorem dX7_car_19 : decode cX7_car 19 = .ok (.invokestatic 100, 3) := by decide +kernel
theorem dX7_car_22 : decode cX7_car 22 = .ok (.ifCond .eq 10, 3) := by decide +kernel
theorem dX7_car_25 : decode cX7_car 25 = .ok (.iload_n 3, 1) := by decide +kernel
theorem dX7_car_26 : decode cX7_car 26 = .ok (.invokestatic 125, 3) := by decide +kernel
theorem dX7_car_29 : decode cX7_car 29 = .ok (.ifCond .ne 10, 3) := by decide +kernel
theorem dX7_car_32 : decode cX7_car 32 = .ok (.aload_n 0, 1) := by decide +kernel
theorem dX7_car_33 : decode cX7_car 33 = .ok (.bipush (-7), 2) := by decide +kernel
theorem dX7_car_35 : decode cX7_car 35 = .ok (.invokevirtual 104, 3) := by decide +kernel
theorem dX7_car_38 : decode cX7_car 38 = .ok (.ireturn, 1) := by decide +kernel
theorem dX7_car_39 : decode cX7_car 39 = .ok (.aload_n 0, 1) := by decide +kernel
theorem dX7_car_40 : decode cX7_car 40 = .ok (.getfield 80, 3) := by decide +kernel
theorem dX7_car_43 : decode cX7_car 43 = .ok (.bipush 10, 2) := by decide +kernel
theorem dX7_car_45 : decode cX7_car 45 = .ok (.if_icmp .lt 10, 3) := by decide +kernel
theorem dX7_car_48 : decode cX7_car 48 = .ok (.aload_n 0, 1) := by decide +kernel
theorem dX7_car_49 : decode cX7_car 49 = .ok (.bipush (-8), 2) := by decide +kernel
theorem dX7_car_51 : decode cX7_car 51 = .ok (.invokevirtual 104, 3) := by decide +kernel
theorem dX7_car_54 : decode cX7_car 54 = .ok (.ireturn, 1) := by decide +kernel
theorem dX7_car_55 : decode cX7_car 55 = .ok (.aload_n 0, 1) := by decide +kernel
theorem dX7_car_56 : decode cX7_car 56 = .ok (.getfield 17, 3) := by decide +kernel
theorem dX7_car_59 : decode cX7_car 59 = .ok (.aload_n 0, 1) := by decide +kernel
theorem dX7_car_60 : decode cX7_car 60 = .ok (.getfield 80, 3) := by decide +kernel
theorem dX7_car_63 : decode cX7_car 63 = .ok (.aaload, 1) := by decide +kernel
theorem dX7_car_64 : decode cX7_car 64 = .ok (.iload_n 1, 1) := by decide +kernel
theorem dX7_car_65 : decode cX7_car 65 = .ok (.iload_n 2, 1) := by decide +kernel
theorem dX7_car_66 : decode cX7_car 66 = .ok (.iload_n 3, 1) := by decide +kernel
theorem dX7_car_67 : decode cX7_car 67 = .ok (.invokevirtual 144, 3) := by decide +kernel
theorem dX7_car_70 : decode cX7_car 70 = .ok (.aload_n 0, 1) := by decide +kernel
theorem dX7_car_71 : decode cX7_car 71 = .ok (.dup, 1) := by decide +kernel
theorem dX7_car_72 : decode cX7_car 72 = .ok (.getfield 80, 3) := by decide +kernel
theorem dX7_car_75 : decode cX7_car 75 = .ok (.iconst 1, 1) := by decide +kernel
theorem dX7_car_76 : decode cX7_car 76 = .ok (.iadd, 1) := by decide +kernel
theorem dX7_car_77 : decode cX7_car 77 = .ok (.putfield 80, 3) := by decide +kernel
theorem dX7_car_80 : decode cX7_car 80 = .ok (.aload_n 0, 1) := by decide +kernel
theorem dX7_car_81 : decode cX7_car 81 = .ok (.getfield 80, 3) := by decide +kernel
theorem dX7_car_84 : decode cX7_car 84 = .ok (.iconst 1, 1) := by decide +kernel
theorem dX7_car_85 : decode cX7_car 85 = .ok (.isub, 1) := by decide +kernel
theorem dX7_car_86 : decode cX7_car 86 = .ok (.ireturn, 1) := by decide +kernel
theorem dX7_load_0 : decode cX7_load 0 = .ok (.iload_n 2, 1) := by decide +kernel
theorem dX7_load_1 : decode cX7_load 1 = .ok (.bipush 10, 2) := by decide +kernel
theorem dX7_load_3 : decode cX7_load 3 = .ok (.idiv, 1) := by decide +kernel
theorem dX7_load_4 : decode cX7_load 4 = .ok (.istore 7, 2) := by decide +kernel
theorem dX7_load_6 : decode cX7_load 6 = .ok (.iload_n 2, 1) := by decide +kernel
theorem dX7_load_7 : decode cX7_load 7 = .ok (.bipush 10, 2) := by decide +kernel
theorem dX7_load_9 : decode cX7_load 9 = .ok (.irem, 1) := by decide +kernel
theorem dX7_load_10 : decode cX7_load 10 = .ok (.istore 8, 2) := by decide +kernel
theorem dX7_load_12 : decode cX7_load 12 = .ok (.aload_n 0, 1) := by decide +kernel
theorem dX7_load_13 : decode cX7_load 13 = .ok (.iload_n 1, 1) := by decide +kernel
theorem dX7_load_14 : decode cX7_load 14 = .ok (.invokevirtual 148, 3) := by decide +kernel
theorem dX7_load_17 : decode cX7_load 17 = .ok (.ifCond .eq 13, 3) := by decide +kernel
theorem dX7_load_20 : decode cX7_load 20 = .ok (.iload_n 2, 1) := by decide +kernel
theorem dX7_load_21 : decode cX7_load 21 = .ok (.ifCond .lt 9, 3) := by decide +kernel
theorem dX7_load_24 : decode cX7_load 24 = .ok (.iload 8, 2) := by decide +kernel
theorem dX7_load_26 : decode cX7_load 26 = .ok (.iconst 4, 1) := by decide +kernel
theorem dX7_load_27 : decode cX7_load 27 = .ok (.if_icmp .lt 10, 3) := by decide +kernel
theorem dX7_load_30 : decode cX7_load 30 = .ok (.aload_n 0, 1) := by decide +kernel
theorem dX7_load_31 : decode cX7_load 31 = .ok (.bipush (-3), 2) := by decide +kernel
theorem dX7_load_33 : decode cX7_load 33 = .ok (.invokevirtual 104, 3) := by decide +kernel
theorem dX7_load_36 : decode cX7_load 36 = .ok (.ireturn, 1) := by decide +kernel
theorem dX7_load_37 : decode cX7_load 37 = .ok (.iload 7, 2) := by decide +kernel
theorem dX7_load_39 : decode cX7_load 39 = .ok (.iconst 4, 1) := by decide +kernel
theorem dX7_load_40 : decode cX7_load 40 = .ok (.if_icmp .gt 26, 3) := by decide +kernel
theorem dX7_load_43 : decode cX7_load 43 = .ok (.iload_n 3, 1) := by decide +kernel
theorem dX7_load_44 : decode cX7_load 44 = .ok (.iconst 1, 1) := by decide +kernel
theorem dX7_load_45 : decode cX7_load 45 = .ok (.sipush 500, 3) := by decide +kernel
theorem dX7_load_48 : decode cX7_load 48 = .ok (.invokestatic 100, 3) := by decide +kernel
theorem dX7_load_51 : decode cX7_load 51 = .ok (.ifCond .eq 15, 3) := by decide +kernel
theorem dX7_load_54 : decode cX7_load 54 = .ok (.iload 4, 2) := by decide +kernel
theorem dX7_load_56 : decode cX7_load 56 = .ok (.iconst 1, 1) := by decide +kernel
theorem dX7_load_57 : decode cX7_load 57 = .ok (.sipush 10000, 3) := by decide +kernel
theorem dX7_load_60 : decode cX7_load 60 = .ok (.invokestatic 100, 3) := by decide +kernel
theorem dX7_load_63 : decode cX7_load 63 = .ok (.ifCond .ne 10, 3) := by decide +kernel
theorem dX7_load_66 : decode cX7_load 66 = .ok (.aload_n 0, 1) := by decide +kernel
theorem dX7_load_67 : decode cX7_load 67 = .ok (.bipush (-7), 2) := by decide +kernel
theorem dX7_load_69 : decode cX7_load 69 = .ok (.invokevirtual 104, 3) := by decide +kernel
theorem dX7_load_72 : decode cX7_load 72 = .ok (.ireturn, 1) := by decide +kernel
theorem dX7_load_73 : decode cX7_load 73 = .ok (.iload 7, 2) := by decide +kernel
theorem dX7_load_75 : decode cX7_load 75 = .ok (.iconst 2, 1) := by decide +kernel
theorem dX7_load_76 : decode cX7_load 76 = .ok (.if_icmp .ne 14, 3) := by decide +kernel
theorem dX7_load_79 : decode cX7_load 79 = .ok (.iload 5, 2) := by decide +kernel
theorem dX7_load_81 : decode cX7_load 81 = .ok (.iconst 1, 1) := by decide +kernel
theorem dX7_load_82 : decode cX7_load 82 = .ok (.bipush 99, 2) := by decide +kernel
theorem dX7_load_84 : decode cX7_load 84 = .ok (.invokestatic 100, 3) := by decide +kernel
theorem dX7_load_87 : decode cX7_load 87 = .ok (.ifCond .eq 11, 3) := by decide +kernel
theorem dX7_load_90 : decode cX7_load 90 = .ok (.iload 6, 2) := by decide +kernel
theorem dX7_load_92 : decode cX7_load 92 = .ok (.invokestatic 125, 3) := by decide +kernel
theorem dX7_load_95 : decode cX7_load 95 = .ok (.ifCond .ne 10, 3) := by decide +kernel
theorem dX7_load_98 : decode cX7_load 98 = .ok (.aload_n 0, 1) := by decide +kernel
theorem dX7_load_99 : decode cX7_load 99 = .ok (.bipush (-7), 2) := by decide +kernel
theorem dX7_load_101 : decode cX7_load 101 = .ok (.invokevirtual 104, 3) := by decide +kernel
theorem dX7_load_104 : decode cX7_load 104 = .ok (.ireturn, 1) := by decide +kernel
theorem dX7_load_105 : decode cX7_load 105 = .ok (.aload_n 0, 1) := by decide +kernel
theorem dX7_load_106 : decode cX7_load 106 = .ok (.getfield 17, 3) := by decide +kernel
theorem dX7_load_109 : decode cX7_load 109 = .ok (.iload_n 1, 1) := by decide +kernel
theorem dX7_load_110 : decode cX7_load 110 = .ok (.aaload, 1) := by decide +kernel
theorem dX7_load_111 : decode cX7_load 111 = .ok (.getfield 153, 3) := by decide +kernel
theorem dX7_load_114 : decode cX7_load 114 = .ok (.iload 8, 2) := by decide +kernel
theorem dX7_load_116 : decode cX7_load 116 = .ok (.aaload, 1) := by decide +kernel
theorem dX7_load_117 : decode cX7_load 117 = .ok (.astore 9, 2) := by decide +kernel
theorem dX7_load_119 : decode cX7_load 119 = .ok (.aload_n 0, 1) := by decide +kernel
theorem dX7_load_120 : decode cX7_load 120 = .ok (.getfield 17, 3) := by decide +kernel
theorem dX7_load_123 : decode cX7_load 123 = .ok (.iload_n 1, 1) := by decide +kernel
theorem dX7_load_124 : decode cX7_load 124 = .ok (.aaload, 1) := by decide +kernel
theorem dX7_load_125 : decode cX7_load 125 = .ok (.invokevirtual 157, 3) := by decide +kernel
theorem dX7_load_128 : decode cX7_load 128 = .ok (.ifCond .ne 11, 3) := by decide +kernel
theorem dX7_load_131 : decode cX7_load 131 = .ok (.aload 9, 2) := by decide +kernel
theorem dX7_load_133 : decode cX7_load 133 = .ok (.invokevirtual 161, 3) := by decide +kernel
theorem dX7_load_136 : decode cX7_load 136 = .ok (.ifCond .eq 10, 3) := by decide +kernel
theorem dX7_load_139 : decode cX7_load 139 = .ok (.aload_n 0, 1) := by decide +kernel
theorem dX7_load_140 : decode cX7_load 140 = .ok (.bipush (-7), 2) := by decide +kernel
theorem dX7_load_142 : decode cX7_load 142 = .ok (.invokevirtual 104, 3) := by decide +kernel
theorem dX7_load_145 : decode cX7_load 145 = .ok (.ireturn, 1) := by decide +kernel
theorem dX7_load_146 : decode cX7_load 146 = .ok (.aload 9, 2) := by decide +kernel
theorem dX7_load_148 : decode cX7_load 148 = .ok (.iload 6, 2) := by decide +kernel
theorem dX7_load_150 : decode cX7_load 150 = .ok (.putfield 164, 3) := by decide +kernel
theorem dX7_load_153 : decode cX7_load 153 = .ok (.aload 9, 2) := by decide +kernel
theorem dX7_load_155 : decode cX7_load 155 = .ok (.iload 7, 2) := by decide +kernel
theorem dX7_load_157 : decode cX7_load 157 = .ok (.iload_n 3, 1) := by decide +kernel
theorem dX7_load_158 : decode cX7_load 158 = .ok (.iload 4, 2) := by decide +kernel
theorem dX7_load_160 : decode cX7_load 160 = .ok (.iload 5, 2) := by decide +kernel
theorem dX7_load_162 : decode cX7_load 162 = .ok (.invokevirtual 167, 3) := by decide +kernel
theorem dX7_load_165 : decode cX7_load 165 = .ok (.iload_n 3, 1) := by decide +kernel
theorem dX7_load_166 : decode cX7_load 166 = .ok (.ireturn, 1) := by decide +kernel
theorem dX7_tier_0 : decode cX7_tier 0 = .ok (.aload_n 0, 1) := by decide +kernel
theorem dX7_tier_1 : decode cX7_tier 1 = .ok (.iload_n 1, 1) := by decide +kernel
theorem dX7_tier_2 : decode cX7_tier 2 = .ok (.invokevirtual 148, 3) := by decide +kernel
theorem dX7_tier_5 : decode cX7_tier 5 = .ok (.ifCond .eq 12, 3) := by decide +kernel
theorem dX7_tier_8 : decode cX7_tier 8 = .ok (.iload_n 2, 1) := by decide +kernel
theorem dX7_tier_9 : decode cX7_tier 9 = .ok (.iconst 0, 1) := by decide +kernel
theorem dX7_tier_10 : decode cX7_tier 10 = .ok (.iconst 3, 1) := by decide +kernel
theorem dX7_tier_11 : decode cX7_tier 11 = .ok (.invokestatic 100, 3) := by decide +kernel
theorem dX7_tier_14 : decode cX7_tier 14 = .ok (.ifCond .ne 10, 3) := by decide +kernel
theorem dX7_tier_17 : decode cX7_tier 17 = .ok (.aload_n 0, 1) := by decide +kernel
theorem dX7_tier_18 : decode cX7_tier 18 = .ok (.bipush (-3), 2) := by decide +kernel
theorem dX7_tier_20 : decode cX7_tier 20 = .ok (.invokevirtual 122, 3) := by decide +kernel
theorem dX7_tier_23 : decode cX7_tier 23 = .ok (.ireturn, 1) := by decide +kernel
theorem dX7_tier_24 : decode cX7_tier 24 = .ok (.iload_n 3, 1) := by decide +kernel
theorem dX7_tier_25 : decode cX7_tier 25 = .ok (.iconst 0, 1) := by decide +kernel
theorem dX7_tier_26 : decode cX7_tier 26 = .ok (.iconst 4, 1) := by decide +kernel
theorem dX7_tier_27 : decode cX7_tier 27 = .ok (.invokestatic 100, 3) := by decide +kernel
theorem dX7_tier_30 : decode cX7_tier 30 = .ok (.ifCond .ne 10, 3) := by decide +kernel
theorem dX7_tier_33 : decode cX7_tier 33 = .ok (.aload_n 0, 1) := by decide +kernel
theorem dX7_tier_34 : decode cX7_tier 34 = .ok (.bipush (-7), 2) := by decide +kernel
theorem dX7_tier_36 : decode cX7_tier 36 = .ok (.invokevirtual 122, 3) := by decide +kernel
theorem dX7_tier_39 : decode cX7_tier 39 = .ok (.ireturn, 1) := by decide +kernel
theorem dX7_tier_40 : decode cX7_tier 40 = .ok (.aload_n 0, 1) := by decide +kernel
theorem dX7_tier_41 : decode cX7_tier 41 = .ok (.getfield 17, 3) := by decide +kernel
theorem dX7_tier_44 : decode cX7_tier 44 = .ok (.iload_n 1, 1) := by decide +kernel
theorem dX7_tier_45 : decode cX7_tier 45 = .ok (.aaload, 1) := by decide +kernel
theorem dX7_tier_46 : decode cX7_tier 46 = .ok (.getfield 153, 3) := by decide +kernel
theorem dX7_tier_49 : decode cX7_tier 49 = .ok (.iload_n 2, 1) := by decide +kernel
theorem dX7_tier_50 : decode cX7_tier 50 = .ok (.aaload, 1) := by decide +kernel
theorem dX7_tier_51 : decode cX7_tier 51 = .ok (.astore 4, 2) := by decide +kernel
theorem dX7_tier_53 : decode cX7_tier 53 = .ok (.iload_n 3, 1) := by decide +kernel
theorem dX7_tier_54 : decode cX7_tier 54 = .ok (.ifCond .ne 9, 3) := by decide +kernel
theorem dX7_tier_57 : decode cX7_tier 57 = .ok (.aload 4, 2) := by decide +kernel
theorem dX7_tier_59 : decode cX7_tier 59 = .ok (.getfield 164, 3) := by decide +kernel
theorem dX7_tier_62 : decode cX7_tier 62 = .ok (.ireturn, 1) := by decide +kernel
theorem dX7_tier_63 : decode cX7_tier 63 = .ok (.aload 4, 2) := by decide +kernel
theorem dX7_tier_65 : decode cX7_tier 65 = .ok (.invokevirtual 161, 3) := by decide +kernel
theorem dX7_tier_68 : decode cX7_tier 68 = .ok (.ifCond .eq 12, 3) := by decide +kernel
theorem dX7_tier_71 : decode cX7_tier 71 = .ok (.aload 4, 2) := by decide +kernel
theorem dX7_tier_73 : decode cX7_tier 73 = .ok (.iload_n 3, 1) := by decide +kernel
theorem dX7_tier_74 : decode cX7_tier 74 = .ok (.invokevirtual 171, 3) := by decide +kernel
theorem dX7_tier_77 : decode cX7_tier 77 = .ok (.goto 4, 3) := by decide +kernel
theorem dX7_tier_80 : decode cX7_tier 80 = .ok (.iconst (-1), 1) := by decide +kernel
theorem dX7_tier_81 : decode cX7_tier 81 = .ok (.ireturn, 1) := by decide +kernel
theorem dX7_fill_0 : decode cX7_fill 0 = .ok (.aload_n 0, 1) := by decide +kernel
theorem dX7_fill_1 : decode cX7_fill 1 = .ok (.iload_n 1, 1) := by decide +kernel
theorem dX7_fill_2 : decode cX7_fill 2 = .ok (.invokevirtual 148, 3) := by decide +kernel
theorem dX7_fill_5 : decode cX7_fill 5 = .ok (.ifCond .ne 10, 3) := by decide +kernel
theorem dX7_fill_8 : decode cX7_fill 8 = .ok (.aload_n 0, 1) := by decide +kernel
theorem dX7_fill_9 : decode cX7_fill 9 = .ok (.bipush (-3), 2) := by decide +kernel
theorem dX7_fill_11 : decode cX7_fill 11 = .ok (.invokevirtual 104, 3) := by decide +kernel
theorem dX7_fill_14 : decode cX7_fill 14 = .ok (.ireturn, 1) := by decide +kernel
theorem dX7_fill_15 : decode cX7_fill 15 = .ok (.aload_n 0, 1) := by decide +kernel
theorem dX7_fill_16 : decode cX7_fill 16 = .ok (.getfield 17, 3) := by decide +kernel
theorem dX7_fill_19 : decode cX7_fill 19 = .ok (.iload_n 1, 1) := by decide +kernel
theorem dX7_fill_20 : decode cX7_fill 20 = .ok (.aaload, 1) := by decide +kernel
theorem dX7_fill_21 : decode cX7_fill 21 = .ok (.astore_n 3, 1) := by decide +kernel
theorem dX7_fill_22 : decode cX7_fill 22 = .ok (.aload_n 3, 1) := by decide +kernel
theorem dX7_fill_23 : decode cX7_fill 23 = .ok (.invokevirtual 174, 3) := by decide +kernel
theorem dX7_fill_26 : decode cX7_fill 26 = .ok (.ifCond .ne 40, 3) := by decide +kernel
theorem dX7_fill_29 : decode cX7_fill 29 = .ok (.iload_n 2, 1) := by decide +kernel
theorem dX7_fill_30 : decode cX7_fill 30 = .ok (.iconst 1, 1) := by decide +kernel
theorem dX7_fill_31 : decode cX7_fill 31 = .ok (.bipush 100, 2) := by decide +kernel
theorem dX7_fill_33 : decode cX7_fill 33 = .ok (.invokestatic 100, 3) := by decide +kernel
theorem dX7_fill_36 : decode cX7_fill 36 = .ok (.ifCond .eq 30, 3) := by decide +kernel
theorem dX7_fill_39 : decode cX7_fill 39 = .ok (.aload_n 3, 1) := by decide +kernel
theorem dX7_fill_40 : decode cX7_fill 40 = .ok (.getfield 177, 3) := by decide +kernel
theorem dX7_fill_43 : decode cX7_fill 43 = .ok (.iload_n 2, 1) := by decide +kernel
theorem dX7_fill_44 : decode cX7_fill 44 = .ok (.iadd, 1) := by decide +kernel
theorem dX7_fill_45 : decode cX7_fill 45 = .ok (.bipush 100, 2) := by decide +kernel
theorem dX7_fill_47 : decode cX7_fill 47 = .ok (.if_icmp .gt 19, 3) := by decide +kernel
theorem dX7_fill_50 : decode cX7_fill 50 = .ok (.aload_n 0, 1) := by decide +kernel
theorem dX7_fill_51 : decode cX7_fill 51 = .ok (.getfield 44, 3) := by decide +kernel
theorem dX7_fill_54 : decode cX7_fill 54 = .ok (.getfield 112, 3) := by decide +kernel
theorem dX7_fill_57 : decode cX7_fill 57 = .ok (.aload_n 3, 1) := by decide +kernel
theorem dX7_fill_58 : decode cX7_fill 58 = .ok (.getfield 179, 3) := by decide +kernel
theorem dX7_fill_61 : decode cX7_fill 61 = .ok (.iaload, 1) := by decide +kernel
theorem dX7_fill_62 : decode cX7_fill 62 = .ok (.iload_n 2, 1) := by decide +kernel
theorem dX7_fill_63 : decode cX7_fill 63 = .ok (.if_icmp .ge 10, 3) := by decide +kernel
theorem dX7_fill_66 : decode cX7_fill 66 = .ok (.aload_n 0, 1) := by decide +kernel
theorem dX7_fill_67 : decode cX7_fill 67 = .ok (.bipush (-7), 2) := by decide +kernel
theorem dX7_fill_69 : decode cX7_fill 69 = .ok (.invokevirtual 104, 3) := by decide +kernel
theorem dX7_fill_72 : decode cX7_fill 72 = .ok (.ireturn, 1) := by decide +kernel
theorem dX7_fill_73 : decode cX7_fill 73 = .ok (.aload_n 0, 1) := by decide +kernel
theorem dX7_fill_74 : decode cX7_fill 74 = .ok (.getfield 44, 3) := by decide +kernel
theorem dX7_fill_77 : decode cX7_fill 77 = .ok (.aload_n 3, 1) := by decide +kernel
theorem dX7_fill_78 : decode cX7_fill 78 = .ok (.iload_n 2, 1) := by decide +kernel
theorem dX7_fill_79 : decode cX7_fill 79 = .ok (.invokevirtual 182, 3) := by decide +kernel
theorem dX7_fill_82 : decode cX7_fill 82 = .ok (.aload_n 3, 1) := by decide +kernel
theorem dX7_fill_83 : decode cX7_fill 83 = .ok (.getfield 177, 3) := by decide +kernel
theorem dX7_fill_86 : decode cX7_fill 86 = .ok (.ireturn, 1) := by decide +kernel
theorem dX7_vent_0 : decode cX7_vent 0 = .ok (.aload_n 0, 1) := by decide +kernel
theorem dX7_vent_1 : decode cX7_vent 1 = .ok (.iload_n 1, 1) := by decide +kernel
theorem dX7_vent_2 : decode cX7_vent 2 = .ok (.invokevirtual 148, 3) := by decide +kernel
theorem dX7_vent_5 : decode cX7_vent 5 = .ok (.ifCond .ne 10, 3) := by decide +kernel
theorem dX7_vent_8 : decode cX7_vent 8 = .ok (.aload_n 0, 1) := by decide +kernel
theorem dX7_vent_9 : decode cX7_vent 9 = .ok (.bipush (-3), 2) := by decide +kernel
theorem dX7_vent_11 : decode cX7_vent 11 = .ok (.invokevirtual 104, 3) := by decide +kernel
theorem dX7_vent_14 : decode cX7_vent 14 = .ok (.ireturn, 1) := by decide +kernel
theorem dX7_vent_15 : decode cX7_vent 15 = .ok (.iload_n 2, 1) := by decide +kernel
theorem dX7_vent_16 : decode cX7_vent 16 = .ok (.iconst 0, 1) := by decide +kernel
theorem dX7_vent_17 : decode cX7_vent 17 = .ok (.iconst 1, 1) := by decide +kernel
theorem dX7_vent_18 : decode cX7_vent 18 = .ok (.invokestatic 100, 3) := by decide +kernel
theorem dX7_vent_21 : decode cX7_vent 21 = .ok (.ifCond .ne 10, 3) := by decide +kernel
theorem dX7_vent_24 : decode cX7_vent 24 = .ok (.aload_n 0, 1) := by decide +kernel
theorem dX7_vent_25 : decode cX7_vent 25 = .ok (.bipush (-7), 2) := by decide +kernel
theorem dX7_vent_27 : decode cX7_vent 27 = .ok (.invokevirtual 104, 3) := by decide +kernel
theorem dX7_vent_30 : decode cX7_vent 30 = .ok (.ireturn, 1) := by decide +kernel
theorem dX7_vent_31 : decode cX7_vent 31 = .ok (.aload_n 0, 1) := by decide +kernel
theorem dX7_vent_32 : decode cX7_vent 32 = .ok (.getfield 17, 3) := by decide +kernel
theorem dX7_vent_35 : decode cX7_vent 35 = .ok (.iload_n 1, 1) := by decide +kernel
theorem dX7_vent_36 : decode cX7_vent 36 = .ok (.aaload, 1) := by decide +kernel
theorem dX7_vent_37 : decode cX7_vent 37 = .ok (.getfield 186, 3) := by decide +kernel
theorem dX7_vent_40 : decode cX7_vent 40 = .ok (.istore_n 3, 1) := by decide +kernel
theorem dX7_vent_41 : decode cX7_vent 41 = .ok (.aload_n 0, 1) := by decide +kernel
theorem dX7_vent_42 : decode cX7_vent 42 = .ok (.getfield 17, 3) := by decide +kernel
theorem dX7_vent_45 : decode cX7_vent 45 = .ok (.iload_n 1, 1) := by decide +kernel
theorem dX7_vent_46 : decode cX7_vent 46 = .ok (.aaload, 1) := by decide +kernel
theorem dX7_vent_47 : decode cX7_vent 47 = .ok (.iload_n 2, 1) := by decide +kernel
theorem dX7_vent_48 : decode cX7_vent 48 = .ok (.putfield 186, 3) := by decide +kernel
theorem dX7_vent_51 : decode cX7_vent 51 = .ok (.iload_n 3, 1) := by decide +kernel
theorem dX7_vent_52 : decode cX7_vent 52 = .ok (.ireturn, 1) := by decide +kernel
theorem dX7_send_0 : decode cX7_send 0 = .ok (.aload_n 0, 1) := by decide +kernel
theorem dX7_send_1 : decode cX7_send 1 = .ok (.iload_n 1, 1) := by decide +kernel
theorem dX7_send_2 : decode cX7_send 2 = .ok (.invokevirtual 148, 3) := by decide +kernel
theorem dX7_send_5 : decode cX7_send 5 = .ok (.ifCond .eq 11, 3) := by decide +kernel
theorem dX7_send_8 : decode cX7_send 8 = .ok (.aload_n 0, 1) := by decide +kernel
theorem dX7_send_9 : decode cX7_send 9 = .ok (.iload_n 2, 1) := by decide +kernel
theorem dX7_send_10 : decode cX7_send 10 = .ok (.invokevirtual 108, 3) := by decide +kernel
theorem dX7_send_13 : decode cX7_send 13 = .ok (.ifCond .ne 10, 3) := by decide +kernel
theorem dX7_send_16 : decode cX7_send 16 = .ok (.aload_n 0, 1) := by decide +kernel
theorem dX7_send_17 : decode cX7_send 17 = .ok (.bipush (-3), 2) := by decide +kernel
theorem dX7_send_19 : decode cX7_send 19 = .ok (.invokevirtual 104, 3) := by decide +kernel
theorem dX7_send_22 : decode cX7_send 22 = .ok (.ireturn, 1) := by decide +kernel
theorem dX7_send_23 : decode cX7_send 23 = .ok (.aload_n 0, 1) := by decide +kernel
theorem dX7_send_24 : decode cX7_send 24 = .ok (.getfield 17, 3) := by decide +kernel
theorem dX7_send_27 : decode cX7_send 27 = .ok (.iload_n 1, 1) := by decide +kernel
theorem dX7_send_28 : decode cX7_send 28 = .ok (.aaload, 1) := by decide +kernel
theorem dX7_send_29 : decode cX7_send 29 = .ok (.astore_n 3, 1) := by decide +kernel
theorem dX7_send_30 : decode cX7_send 30 = .ok (.aload_n 3, 1) := by decide +kernel
theorem dX7_send_31 : decode cX7_send 31 = .ok (.invokevirtual 157, 3) := by decide +kernel
theorem dX7_send_34 : decode cX7_send 34 = .ok (.ifCond .ne 11, 3) := by decide +kernel
theorem dX7_send_37 : decode cX7_send 37 = .ok (.aload_n 3, 1) := by decide +kernel
theorem dX7_send_38 : decode cX7_send 38 = .ok (.iload_n 2, 1) := by decide +kernel
theorem dX7_send_39 : decode cX7_send 39 = .ok (.invokevirtual 189, 3) := by decide +kernel
theorem dX7_send_42 : decode cX7_send 42 = .ok (.ifCond .ne 10, 3) := by decide +kernel
theorem dX7_send_45 : decode cX7_send 45 = .ok (.aload_n 0, 1) := by decide +kernel
theorem dX7_send_46 : decode cX7_send 46 = .ok (.bipush (-7), 2) := by decide +kernel
theorem dX7_send_48 : decode cX7_send 48 = .ok (.invokevirtual 104, 3) := by decide +kernel
theorem dX7_send_51 : decode cX7_send 51 = .ok (.ireturn, 1) := by decide +kernel
theorem dX7_send_52 : decode cX7_send 52 = .ok (.aload_n 3, 1) := by decide +kernel
theorem dX7_send_53 : decode cX7_send 53 = .ok (.iload_n 2, 1) := by decide +kernel
theorem dX7_send_54 : decode cX7_send 54 = .ok (.aload_n 0, 1) := by decide +kernel
theorem dX7_send_55 : decode cX7_send 55 = .ok (.getfield 11, 3) := by decide +kernel
theorem dX7_send_58 : decode cX7_send 58 = .ok (.aload_n 3, 1) := by decide +kernel
theorem dX7_send_59 : decode cX7_send 59 = .ok (.getfield 179, 3) := by decide +kernel
theorem dX7_send_62 : decode cX7_send 62 = .ok (.aaload, 1) := by decide +kernel
theorem dX7_send_63 : decode cX7_send 63 = .ok (.getfield 192, 3) := by decide +kernel
theorem dX7_send_66 : decode cX7_send 66 = .ok (.invokevirtual 195, 3) := by decide +kernel
theorem dX7_send_69 : decode cX7_send 69 = .ok (.aload_n 0, 1) := by decide +kernel
theorem dX7_send_70 : decode cX7_send 70 = .ok (.aload_n 3, 1) := by decide +kernel
theorem dX7_send_71 : decode cX7_send 71 = .ok (.invokevirtual 199, 3) := by decide +kernel
theorem dX7_send_74 : decode cX7_send 74 = .ok (.ireturn, 1) := by decide +kernel
theorem dX7_turn_0 : decode cX7_turn 0 = .ok (.aload_n 0, 1) := by decide +kernel
theorem dX7_turn_1 : decode cX7_turn 1 = .ok (.iload_n 1, 1) := by decide +kernel
theorem dX7_turn_2 : decode cX7_turn 2 = .ok (.invokevirtual 148, 3) := by decide +kernel
theorem dX7_turn_5 : decode cX7_turn 5 = .ok (.ifCond .eq 11, 3) := by decide +kernel
theorem dX7_turn_8 : decode cX7_turn 8 = .ok (.aload_n 0, 1) := by decide +kernel
theorem dX7_turn_9 : decode cX7_turn 9 = .ok (.iload_n 2, 1) := by decide +kernel
theorem dX7_turn_10 : decode cX7_turn 10 = .ok (.invokevirtual 108, 3) := by decide +kernel
theorem dX7_turn_13 : decode cX7_turn 13 = .ok (.ifCond .ne 10, 3) := by decide +kernel
theorem dX7_turn_16 : decode cX7_turn 16 = .ok (.aload_n 0, 1) := by decide +kernel
theorem dX7_turn_17 : decode cX7_turn 17 = .ok (.bipush (-3), 2) := by decide +kernel
theorem dX7_turn_19 : decode cX7_turn 19 = .ok (.invokevirtual 104, 3) := by decide +kernel
theorem dX7_turn_22 : decode cX7_turn 22 = .ok (.ireturn, 1) := by decide +kernel
theorem dX7_turn_23 : decode cX7_turn 23 = .ok (.aload_n 0, 1) := by decide +kernel
theorem dX7_turn_24 : decode cX7_turn 24 = .ok (.getfield 17, 3) := by decide +kernel
theorem dX7_turn_27 : decode cX7_turn 27 = .ok (.iload_n 1, 1) := by decide +kernel
theorem dX7_turn_28 : decode cX7_turn 28 = .ok (.aaload, 1) := by decide +kernel
theorem dX7_turn_29 : decode cX7_turn 29 = .ok (.astore_n 3, 1) := by decide +kernel
theorem dX7_turn_30 : decode cX7_turn 30 = .ok (.aload_n 3, 1) := by decide +kernel
theorem dX7_turn_31 : decode cX7_turn 31 = .ok (.invokevirtual 157, 3) := by decide +kernel
theorem dX7_turn_34 : decode cX7_turn 34 = .ok (.ifCond .eq 11, 3) := by decide +kernel
theorem dX7_turn_37 : decode cX7_turn 37 = .ok (.aload_n 3, 1) := by decide +kernel
theorem dX7_turn_38 : decode cX7_turn 38 = .ok (.iload_n 2, 1) := by decide +kernel
theorem dX7_turn_39 : decode cX7_turn 39 = .ok (.invokevirtual 189, 3) := by decide +kernel
theorem dX7_turn_42 : decode cX7_turn 42 = .ok (.ifCond .ne 10, 3) := by decide +kernel
theorem dX7_turn_45 : decode cX7_turn 45 = .ok (.aload_n 0, 1) := by decide +kernel
theorem dX7_turn_46 : decode cX7_turn 46 = .ok (.bipush (-7), 2) := by decide +kernel
theorem dX7_turn_48 : decode cX7_turn 48 = .ok (.invokevirtual 104, 3) := by decide +kernel
theorem dX7_turn_51 : decode cX7_turn 51 = .ok (.ireturn, 1) := by decide +kernel
theorem dX7_turn_52 : decode cX7_turn 52 = .ok (.aload_n 3, 1) := by decide +kernel
theorem dX7_turn_53 : decode cX7_turn 53 = .ok (.iload_n 2, 1) := by decide +kernel
theorem dX7_turn_54 : decode cX7_turn 54 = .ok (.putfield 203, 3) := by decide +kernel
theorem dX7_turn_57 : decode cX7_turn 57 = .ok (.aload_n 0, 1) := by decide +kernel
theorem dX7_turn_58 : decode cX7_turn 58 = .ok (.aload_n 3, 1) := by decide +kernel
theorem dX7_turn_59 : decode cX7_turn 59 = .ok (.invokevirtual 199, 3) := by decide +kernel
theorem dX7_turn_62 : decode cX7_turn 62 = .ok (.ireturn, 1) := by decide +kernel
theorem dX7_late_0 : decode cX7_late 0 = .ok (.aload_n 0, 1) := by decide +kernel
theorem dX7_late_1 : decode cX7_late 1 = .ok (.iload_n 1, 1) := by decide +kernel
theorem dX7_late_2 : decode cX7_late 2 = .ok (.invokevirtual 108, 3) := by decide +kernel
theorem dX7_late_5 : decode cX7_late 5 = .ok (.ifCond .ne 10, 3) := by decide +kernel
theorem dX7_late_8 : decode cX7_late 8 = .ok (.aload_n 0, 1) := by decide +kernel
theorem dX7_late_9 : decode cX7_late 9 = .ok (.bipush (-3), 2) := by decide +kernel
theorem dX7_late_11 : decode cX7_late 11 = .ok (.invokevirtual 104, 3) := by decide +kernel
theorem dX7_late_14 : decode cX7_late 14 = .ok (.ireturn, 1) := by decide +kernel
theorem dX7_late_15 : decode cX7_late 15 = .ok (.iload_n 2, 1) := by decide +kernel
theorem dX7_late_16 : decode cX7_late 16 = .ok (.iconst 0, 1) := by decide +kernel
theorem dX7_late_17 : decode cX7_late 17 = .ok (.bipush 48, 2) := by decide +kernel
theorem dX7_late_19 : decode cX7_late 19 = .ok (.invokestatic 100, 3) := by decide +kernel
theorem dX7_late_22 : decode cX7_late 22 = .ok (.ifCond .ne 10, 3) := by decide +kernel
theorem dX7_late_25 : decode cX7_late 25 = .ok (.aload_n 0, 1) := by decide +kernel
theorem dX7_late_26 : decode cX7_late 26 = .ok (.bipush (-7), 2) := by decide +kernel
theorem dX7_late_28 : decode cX7_late 28 = .ok (.invokevirtual 104, 3) := by decide +kernel
theorem dX7_late_31 : decode cX7_late 31 = .ok (.ireturn, 1) := by decide +kernel
theorem dX7_late_32 : decode cX7_late 32 = .ok (.aload_n 0, 1) := by decide +kernel
theorem dX7_late_33 : decode cX7_late 33 = .ok (.getfield 11, 3) := by decide +kernel
theorem dX7_late_36 : decode cX7_late 36 = .ok (.iload_n 1, 1) := by decide +kernel
theorem dX7_late_37 : decode cX7_late 37 = .ok (.aaload, 1) := by decide +kernel
theorem dX7_late_38 : decode cX7_late 38 = .ok (.getfield 192, 3) := by decide +kernel
theorem dX7_late_41 : decode cX7_late 41 = .ok (.istore_n 3, 1) := by decide +kernel
theorem dX7_late_42 : decode cX7_late 42 = .ok (.aload_n 0, 1) := by decide +kernel
theorem dX7_late_43 : decode cX7_late 43 = .ok (.getfield 11, 3) := by decide +kernel
theorem dX7_late_46 : decode cX7_late 46 = .ok (.iload_n 1, 1) := by decide +kernel
theorem dX7_late_47 : decode cX7_late 47 = .ok (.aaload, 1) := by decide +kernel
theorem dX7_late_48 : decode cX7_late 48 = .ok (.iload_n 2, 1) := by decide +kernel
theorem dX7_late_49 : decode cX7_late 49 = .ok (.putfield 192, 3) := by decide +kernel
theorem dX7_late_52 : decode cX7_late 52 = .ok (.iload_n 3, 1) := by decide +kernel
theorem dX7_late_53 : decode cX7_late 53 = .ok (.ireturn, 1) := by decide +kernel
theorem dX7_look_0 : decode cX7_look 0 = .ok (.aload_n 0, 1) := by decide +kernel
theorem dX7_look_1 : decode cX7_look 1 = .ok (.iload_n 1, 1) := by decide +kernel
theorem dX7_look_2 : decode cX7_look 2 = .ok (.invokevirtual 148, 3) := by decide +kernel
theorem dX7_look_5 : decode cX7_look 5 = .ok (.ifCond .ne 10, 3) := by decide +kernel
theorem dX7_look_8 : decode cX7_look 8 = .ok (.aload_n 0, 1) := by decide +kernel
theorem dX7_look_9 : decode cX7_look 9 = .ok (.bipush (-3), 2) := by decide +kernel
theorem dX7_look_11 : decode cX7_look 11 = .ok (.invokevirtual 104, 3) := by decide +kernel
theorem dX7_look_14 : decode cX7_look 14 = .ok (.ireturn, 1) := by decide +kernel
theorem dX7_look_15 : decode cX7_look 15 = .ok (.aload_n 0, 1) := by decide +kernel
theorem dX7_look_16 : decode cX7_look 16 = .ok (.getfield 17, 3) := by decide +kernel
theorem dX7_look_19 : decode cX7_look 19 = .ok (.iload_n 1, 1) := by decide +kernel
theorem dX7_look_20 : decode cX7_look 20 = .ok (.aaload, 1) := by decide +kernel
theorem dX7_look_21 : decode cX7_look 21 = .ok (.astore_n 3, 1) := by decide +kernel
theorem dX7_look_22 : decode cX7_look 22 = .ok (.iload_n 2, 1) := by decide +kernel
theorem dX7_look_23 : decode cX7_look 23 = .ok (.tableswitch 93 0 7 #[45, 50, 55, 60, 65, 70, 75, 80], 45) := by decide +kernel
theorem dX7_look_68 : decode cX7_look 68 = .ok (.aload_n 3, 1) := by decide +kernel
theorem dX7_look_69 : decode cX7_look 69 = .ok (.getfield 179, 3) := by decide +kernel
theorem dX7_look_72 : decode cX7_look 72 = .ok (.ireturn, 1) := by decide +kernel
theorem dX7_look_73 : decode cX7_look 73 = .ok (.aload_n 3, 1) := by decide +kernel
theorem dX7_look_74 : decode cX7_look 74 = .ok (.getfield 203, 3) := by decide +kernel
theorem dX7_look_77 : decode cX7_look 77 = .ok (.ireturn, 1) := by decide +kernel
theorem dX7_look_78 : decode cX7_look 78 = .ok (.aload_n 3, 1) := by decide +kernel
theorem dX7_look_79 : decode cX7_look 79 = .ok (.getfield 206, 3) := by decide +kernel
theorem dX7_look_82 : decode cX7_look 82 = .ok (.ireturn, 1) := by decide +kernel
theorem dX7_look_83 : decode cX7_look 83 = .ok (.aload_n 3, 1) := by decide +kernel
theorem dX7_look_84 : decode cX7_look 84 = .ok (.getfield 209, 3) := by decide +kernel
theorem dX7_look_87 : decode cX7_look 87 = .ok (.ireturn, 1) := by decide +kernel
theorem dX7_look_88 : decode cX7_look 88 = .ok (.aload_n 3, 1) := by decide +kernel
theorem dX7_look_89 : decode cX7_look 89 = .ok (.getfield 177, 3) := by decide +kernel
theorem dX7_look_92 : decode cX7_look 92 = .ok (.ireturn, 1) := by decide +kernel
theorem dX7_look_93 : decode cX7_look 93 = .ok (.aload_n 3, 1) := by decide +kernel
theorem dX7_look_94 : decode cX7_look 94 = .ok (.getfield 186, 3) := by decide +kernel
theorem dX7_look_97 : decode cX7_look 97 = .ok (.ireturn, 1) := by decide +kernel
theorem dX7_look_98 : decode cX7_look 98 = .ok (.aload_n 3, 1) := by decide +kernel
theorem dX7_look_99 : decode cX7_look 99 = .ok (.getfield 212, 3) := by decide +kernel
theorem dX7_look_102 : decode cX7_look 102 = .ok (.ireturn, 1) := by decide +kernel
theorem dX7_look_103 : decode cX7_look 103 = .ok (.aload_n 3, 1) := by decide +kernel
theorem dX7_look_104 : decode cX7_look 104 = .ok (.getfield 215, 3) := by decide +kernel
theorem dX7_look_107 : decode cX7_look 107 = .ok (.ifCond .eq 7, 3) := by decide +kernel
theorem dX7_look_110 : decode cX7_look 110 = .ok (.iconst 1, 1) := by decide +kernel
theorem dX7_look_111 : decode cX7_look 111 = .ok (.goto 4, 3) := by decide +kernel
theorem dX7_look_114 : decode cX7_look 114 = .ok (.iconst 0, 1) := by decide +kernel
theorem dX7_look_115 : decode cX7_look 115 = .ok (.ireturn, 1) := by decide +kernel
theorem dX7_look_116 : decode cX7_look 116 = .ok (.aload_n 0, 1) := by decide +kernel
theorem dX7_look_117 : decode cX7_look 117 = .ok (.bipush (-7), 2) := by decide +kernel
theorem dX7_look_119 : decode cX7_look 119 = .ok (.invokevirtual 104, 3) := by decide +kernel
theorem dX7_look_122 : decode cX7_look 122 = .ok (.ireturn, 1) := by decide +kernel
theorem dX7_feed_0 : decode cX7_feed 0 = .ok (.iload_n 2, 1) := by decide +kernel
theorem dX7_feed_1 : decode cX7_feed 1 = .ok (.ifCond .ge 10, 3) := by decide +kernel
theorem dX7_feed_4 : decode cX7_feed 4 = .ok (.aload_n 0, 1) := by decide +kernel
theorem dX7_feed_5 : decode cX7_feed 5 = .ok (.bipush (-4), 2) := by decide +kernel
theorem dX7_feed_7 : decode cX7_feed 7 = .ok (.invokevirtual 104, 3) := by decide +kernel
theorem dX7_feed_10 : decode cX7_feed 10 = .ok (.ireturn, 1) := by decide +kernel
theorem dX7_feed_11 : decode cX7_feed 11 = .ok (.iload_n 2, 1) := by decide +kernel
theorem dX7_feed_12 : decode cX7_feed 12 = .ok (.iconst 4, 1) := by decide +kernel
theorem dX7_feed_13 : decode cX7_feed 13 = .ok (.if_icmp .le 10, 3) := by decide +kernel
theorem dX7_feed_16 : decode cX7_feed 16 = .ok (.aload_n 0, 1) := by decide +kernel
theorem dX7_feed_17 : decode cX7_feed 17 = .ok (.bipush (-7), 2) := by decide +kernel
theorem dX7_feed_19 : decode cX7_feed 19 = .ok (.invokevirtual 104, 3) := by decide +kernel
theorem dX7_feed_22 : decode cX7_feed 22 = .ok (.ireturn, 1) := by decide +kernel
theorem dX7_feed_23 : decode cX7_feed 23 = .ok (.aload_n 0, 1) := by decide +kernel
theorem dX7_feed_24 : decode cX7_feed 24 = .ok (.getfield 30, 3) := by decide +kernel
theorem dX7_feed_27 : decode cX7_feed 27 = .ok (.getfield 218, 3) := by decide +kernel
theorem dX7_feed_30 : decode cX7_feed 30 = .ok (.iload_n 2, 1) := by decide +kernel
theorem dX7_feed_31 : decode cX7_feed 31 = .ok (.iadd, 1) := by decide +kernel
theorem dX7_feed_32 : decode cX7_feed 32 = .ok (.bipush 80, 2) := by decide +kernel
theorem dX7_feed_34 : decode cX7_feed 34 = .ok (.if_icmp .le 10, 3) := by decide +kernel
theorem dX7_feed_37 : decode cX7_feed 37 = .ok (.aload_n 0, 1) := by decide +kernel
theorem dX7_feed_38 : decode cX7_feed 38 = .ok (.bipush (-8), 2) := by decide +kernel
theorem dX7_feed_40 : decode cX7_feed 40 = .ok (.invokevirtual 104, 3) := by decide +kernel
theorem dX7_feed_43 : decode cX7_feed 43 = .ok (.ireturn, 1) := by decide +kernel
theorem dX7_feed_44 : decode cX7_feed 44 = .ok (.iload_n 2, 1) := by decide +kernel
theorem dX7_feed_45 : decode cX7_feed 45 = .ok (.iconst 1, 1) := by decide +kernel
theorem dX7_feed_46 : decode cX7_feed 46 = .ok (.isub, 1) := by decide +kernel
theorem dX7_feed_47 : decode cX7_feed 47 = .ok (.istore_n 3, 1) := by decide +kernel
theorem dX7_feed_48 : decode cX7_feed 48 = .ok (.iload_n 3, 1) := by decide +kernel
theorem dX7_feed_49 : decode cX7_feed 49 = .ok (.ifCond .lt 47, 3) := by decide +kernel
theorem dX7_feed_52 : decode cX7_feed 52 = .ok (.aload_n 0, 1) := by decide +kernel
theorem dX7_feed_53 : decode cX7_feed 53 = .ok (.getfield 30, 3) := by decide +kernel
theorem dX7_feed_56 : decode cX7_feed 56 = .ok (.getfield 221, 3) := by decide +kernel
theorem dX7_feed_59 : decode cX7_feed 59 = .ok (.aload_n 0, 1) := by decide +kernel
theorem dX7_feed_60 : decode cX7_feed 60 = .ok (.getfield 30, 3) := by decide +kernel
theorem dX7_feed_63 : decode cX7_feed 63 = .ok (.getfield 218, 3) := by decide +kernel
theorem dX7_feed_66 : decode cX7_feed 66 = .ok (.iload_n 1, 1) := by decide +kernel
theorem dX7_feed_67 : decode cX7_feed 67 = .ok (.bipush 8, 2) := by decide +kernel
theorem dX7_feed_69 : decode cX7_feed 69 = .ok (.iload_n 3, 1) := by decide +kernel
theorem dX7_feed_70 : decode cX7_feed 70 = .ok (.imul, 1) := by decide +kernel
theorem dX7_feed_71 : decode cX7_feed 71 = .ok (.ishr, 1) := by decide +kernel
theorem dX7_feed_72 : decode cX7_feed 72 = .ok (.sipush 255, 3) := by decide +kernel
theorem dX7_feed_75 : decode cX7_feed 75 = .ok (.iand, 1) := by decide +kernel
theorem dX7_feed_76 : decode cX7_feed 76 = .ok (.iastore, 1) := by decide +kernel
theorem dX7_feed_77 : decode cX7_feed 77 = .ok (.aload_n 0, 1) := by decide +kernel
theorem dX7_feed_78 : decode cX7_feed 78 = .ok (.getfield 30, 3) := by decide +kernel
theorem dX7_feed_81 : decode cX7_feed 81 = .ok (.dup, 1) := by decide +kernel
theorem dX7_feed_82 : decode cX7_feed 82 = .ok (.getfield 218, 3) := by decide +kernel
theorem dX7_feed_85 : decode cX7_feed 85 = .ok (.iconst 1, 1) := by decide +kernel
theorem dX7_feed_86 : decode cX7_feed 86 = .ok (.iadd, 1) := by decide +kernel
theorem dX7_feed_87 : decode cX7_feed 87 = .ok (.putfield 218, 3) := by decide +kernel
theorem dX7_feed_90 : decode cX7_feed 90 = .ok (.iinc 3 (-1), 3) := by decide +kernel
theorem dX7_feed_93 : decode cX7_feed 93 = .ok (.goto (-45), 3) := by decide +kernel
theorem dX7_feed_96 : decode cX7_feed 96 = .ok (.aload_n 0, 1) := by decide +kernel
theorem dX7_feed_97 : decode cX7_feed 97 = .ok (.getfield 30, 3) := by decide +kernel
theorem dX7_feed_100 : decode cX7_feed 100 = .ok (.getfield 218, 3) := by decide +kernel
theorem dX7_feed_103 : decode cX7_feed 103 = .ok (.ireturn, 1) := by decide +kernel
theorem dX7_wipe_0 : decode cX7_wipe 0 = .ok (.aload_n 0, 1) := by decide +kernel
theorem dX7_wipe_1 : decode cX7_wipe 1 = .ok (.getfield 30, 3) := by decide +kernel
theorem dX7_wipe_4 : decode cX7_wipe 4 = .ok (.getfield 218, 3) := by decide +kernel
theorem dX7_wipe_7 : decode cX7_wipe 7 = .ok (.istore_n 1, 1) := by decide +kernel
theorem dX7_wipe_8 : decode cX7_wipe 8 = .ok (.aload_n 0, 1) := by decide +kernel
theorem dX7_wipe_9 : decode cX7_wipe 9 = .ok (.getfield 30, 3) := by decide +kernel
theorem dX7_wipe_12 : decode cX7_wipe 12 = .ok (.iconst 0, 1) := by decide +kernel
theorem dX7_wipe_13 : decode cX7_wipe 13 = .ok (.putfield 218, 3) := by decide +kernel
theorem dX7_wipe_16 : decode cX7_wipe 16 = .ok (.iload_n 1, 1) := by decide +kernel
theorem dX7_wipe_17 : decode cX7_wipe 17 = .ok (.ireturn, 1) := by decide +kernel
theorem dX7_rule_0 : decode cX7_rule 0 = .ok (.iload_n 1, 1) := by decide +kernel
theorem dX7_rule_1 : decode cX7_rule 1 = .ok (.ifCond .lt 14, 3) := by decide +kernel
theorem dX7_rule_4 : decode cX7_rule 4 = .ok (.iload_n 1, 1) := by decide +kernel
theorem dX7_rule_5 : decode cX7_rule 5 = .ok (.iload_n 2, 1) := by decide +kernel
theorem dX7_rule_6 : decode cX7_rule 6 = .ok (.if_icmp .ge 9, 3) := by decide +kernel
theorem dX7_rule_9 : decode cX7_rule 9 = .ok (.iload_n 2, 1) := by decide +kernel
theorem dX7_rule_10 : decode cX7_rule 10 = .ok (.ldc 115, 2) := by decide +kernel
theorem dX7_rule_12 : decode cX7_rule 12 = .ok (.if_icmp .le 10, 3) := by decide +kernel
theorem dX7_rule_15 : decode cX7_rule 15 = .ok (.aload_n 0, 1) := by decide +kernel
theorem dX7_rule_16 : decode cX7_rule 16 = .ok (.bipush (-7), 2) := by decide +kernel
theorem dX7_rule_18 : decode cX7_rule 18 = .ok (.invokevirtual 104, 3) := by decide +kernel
theorem dX7_rule_21 : decode cX7_rule 21 = .ok (.ireturn, 1) := by decide +kernel
theorem dX7_rule_22 : decode cX7_rule 22 = .ok (.aload_n 0, 1) := by decide +kernel
theorem dX7_rule_23 : decode cX7_rule 23 = .ok (.getfield 83, 3) := by decide +kernel
theorem dX7_rule_26 : decode cX7_rule 26 = .ok (.bipush 10, 2) := by decide +kernel
theorem dX7_rule_28 : decode cX7_rule 28 = .ok (.if_icmp .lt 10, 3) := by decide +kernel
theorem dX7_rule_31 : decode cX7_rule 31 = .ok (.aload_n 0, 1) := by decide +kernel
theorem dX7_rule_32 : decode cX7_rule 32 = .ok (.bipush (-8), 2) := by decide +kernel
theorem dX7_rule_34 : decode cX7_rule 34 = .ok (.invokevirtual 104, 3) := by decide +kernel
theorem dX7_rule_37 : decode cX7_rule 37 = .ok (.ireturn, 1) := by decide +kernel
theorem dX7_rule_38 : decode cX7_rule 38 = .ok (.aload_n 0, 1) := by decide +kernel
theorem dX7_rule_39 : decode cX7_rule 39 = .ok (.getfield 23, 3) := by decide +kernel
theorem dX7_rule_42 : decode cX7_rule 42 = .ok (.aload_n 0, 1) := by decide +kernel
theorem dX7_rule_43 : decode cX7_rule 43 = .ok (.getfield 83, 3) := by decide +kernel
theorem dX7_rule_46 : decode cX7_rule 46 = .ok (.aaload, 1) := by decide +kernel
theorem dX7_rule_47 : decode cX7_rule 47 = .ok (.astore_n 3, 1) := by decide +kernel
theorem dX7_rule_48 : decode cX7_rule 48 = .ok (.aload_n 0, 1) := by decide +kernel
theorem dX7_rule_49 : decode cX7_rule 49 = .ok (.getfield 30, 3) := by decide +kernel
theorem dX7_rule_52 : decode cX7_rule 52 = .ok (.aload_n 3, 1) := by decide +kernel
theorem dX7_rule_53 : decode cX7_rule 53 = .ok (.invokevirtual 224, 3) := by decide +kernel
theorem dX7_rule_56 : decode cX7_rule 56 = .ok (.istore 4, 2) := by decide +kernel
theorem dX7_rule_58 : decode cX7_rule 58 = .ok (.iload 4, 2) := by decide +kernel
theorem dX7_rule_60 : decode cX7_rule 60 = .ok (.iconst (-1), 1) := by decide +kernel
theorem dX7_rule_61 : decode cX7_rule 61 = .ok (.if_icmp .eq 9, 3) := by decide +kernel
theorem dX7_rule_64 : decode cX7_rule 64 = .ok (.bipush (-10), 2) := by decide +kernel
theorem dX7_rule_66 : decode cX7_rule 66 = .ok (.iload 4, 2) := by decide +kernel
theorem dX7_rule_68 : decode cX7_rule 68 = .ok (.isub, 1) := by decide +kernel
theorem dX7_rule_69 : decode cX7_rule 69 = .ok (.ireturn, 1) := by decide +kernel
theorem dX7_rule_70 : decode cX7_rule 70 = .ok (.aload_n 3, 1) := by decide +kernel
theorem dX7_rule_71 : decode cX7_rule 71 = .ok (.iload_n 1, 1) := by decide +kernel
theorem dX7_rule_72 : decode cX7_rule 72 = .ok (.putfield 228, 3) := by decide +kernel
theorem dX7_rule_75 : decode cX7_rule 75 = .ok (.aload_n 3, 1) := by decide +kernel
theorem dX7_rule_76 : decode cX7_rule 76 = .ok (.iload_n 2, 1) := by decide +kernel
theorem dX7_rule_77 : decode cX7_rule 77 = .ok (.putfield 231, 3) := by decide +kernel
theorem dX7_rule_80 : decode cX7_rule 80 = .ok (.aload_n 0, 1) := by decide +kernel
theorem dX7_rule_81 : decode cX7_rule 81 = .ok (.getfield 30, 3) := by decide +kernel
theorem dX7_rule_84 : decode cX7_rule 84 = .ok (.iconst 0, 1) := by decide +kernel
theorem dX7_rule_85 : decode cX7_rule 85 = .ok (.putfield 218, 3) := by decide +kernel
theorem dX7_rule_88 : decode cX7_rule 88 = .ok (.aload_n 0, 1) := by decide +kernel
theorem dX7_rule_89 : decode cX7_rule 89 = .ok (.dup, 1) := by decide +kernel
theorem dX7_rule_90 : decode cX7_rule 90 = .ok (.getfield 83, 3) := by decide +kernel
theorem dX7_rule_93 : decode cX7_rule 93 = .ok (.iconst 1, 1) := by decide +kernel
theorem dX7_rule_94 : decode cX7_rule 94 = .ok (.iadd, 1) := by decide +kernel
theorem dX7_rule_95 : decode cX7_rule 95 = .ok (.putfield 83, 3) := by decide +kernel
theorem dX7_rule_98 : decode cX7_rule 98 = .ok (.aload_n 0, 1) := by decide +kernel
theorem dX7_rule_99 : decode cX7_rule 99 = .ok (.getfield 83, 3) := by decide +kernel
theorem dX7_rule_102 : decode cX7_rule 102 = .ok (.iconst 1, 1) := by decide +kernel
theorem dX7_rule_103 : decode cX7_rule 103 = .ok (.isub, 1) := by decide +kernel
theorem dX7_rule_104 : decode cX7_rule 104 = .ok (.ireturn, 1) := by decide +kernel
theorem dX7_run_0 : decode cX7_run 0 = .ok (.iload_n 1, 1) := by decide +kernel
theorem dX7_run_1 : decode cX7_run 1 = .ok (.ifCond .ge 10, 3) := by decide +kernel
theorem dX7_run_4 : decode cX7_run 4 = .ok (.aload_n 0, 1) := by decide +kernel
theorem dX7_run_5 : decode cX7_run 5 = .ok (.bipush (-4), 2) := by decide +kernel
theorem dX7_run_7 : decode cX7_run 7 = .ok (.invokevirtual 104, 3) := by decide +kernel
theorem dX7_run_10 : decode cX7_run 10 = .ok (.ireturn, 1) := by decide +kernel
theorem dX7_run_11 : decode cX7_run 11 = .ok (.iload_n 1, 1) := by decide +kernel
theorem dX7_run_12 : decode cX7_run 12 = .ok (.iconst 1, 1) := by decide +kernel
theorem dX7_run_13 : decode cX7_run 13 = .ok (.sipush 200, 3) := by decide +kernel
theorem dX7_run_16 : decode cX7_run 16 = .ok (.invokestatic 100, 3) := by decide +kernel
theorem dX7_run_19 : decode cX7_run 19 = .ok (.ifCond .ne 10, 3) := by decide +kernel
theorem dX7_run_22 : decode cX7_run 22 = .ok (.aload_n 0, 1) := by decide +kernel
theorem dX7_run_23 : decode cX7_run 23 = .ok (.bipush (-7), 2) := by decide +kernel
theorem dX7_run_25 : decode cX7_run 25 = .ok (.invokevirtual 104, 3) := by decide +kernel
theorem dX7_run_28 : decode cX7_run 28 = .ok (.ireturn, 1) := by decide +kernel
theorem dX7_run_29 : decode cX7_run 29 = .ok (.iconst 0, 1) := by decide +kernel
theorem dX7_run_30 : decode cX7_run 30 = .ok (.istore_n 2, 1) := by decide +kernel
theorem dX7_run_31 : decode cX7_run 31 = .ok (.iconst 0, 1) := by decide +kernel
theorem dX7_run_32 : decode cX7_run 32 = .ok (.istore_n 3, 1) := by decide +kernel
theorem dX7_run_33 : decode cX7_run 33 = .ok (.iload_n 3, 1) := by decide +kernel
theorem dX7_run_34 : decode cX7_run 34 = .ok (.iload_n 1, 1) := by decide +kernel
theorem dX7_run_35 : decode cX7_run 35 = .ok (.if_icmp .ge 74, 3) := by decide +kernel
theorem dX7_run_38 : decode cX7_run 38 = .ok (.aload_n 0, 1) := by decide +kernel
theorem dX7_run_39 : decode cX7_run 39 = .ok (.getfield 44, 3) := by decide +kernel
theorem dX7_run_42 : decode cX7_run 42 = .ok (.invokevirtual 234, 3) := by decide +kernel
theorem dX7_run_45 : decode cX7_run 45 = .ok (.iconst 0, 1) := by decide +kernel
theorem dX7_run_46 : decode cX7_run 46 = .ok (.istore 4, 2) := by decide +kernel
theorem dX7_run_48 : decode cX7_run 48 = .ok (.iload 4, 2) := by decide +kernel
theorem dX7_run_50 : decode cX7_run 50 = .ok (.aload_n 0, 1) := by decide +kernel
theorem dX7_run_51 : decode cX7_run 51 = .ok (.getfield 80, 3) := by decide +kernel
theorem dX7_run_54 : decode cX7_run 54 = .ok (.if_icmp .ge 39, 3) := by decide +kernel
theorem dX7_run_57 : decode cX7_run 57 = .ok (.iload_n 2, 1) := by decide +kernel
theorem dX7_run_58 : decode cX7_run 58 = .ok (.aload_n 0, 1) := by decide +kernel
theorem dX7_run_59 : decode cX7_run 59 = .ok (.aload_n 0, 1) := by decide +kernel
theorem dX7_run_60 : decode cX7_run 60 = .ok (.getfield 17, 3) := by decide +kernel
theorem dX7_run_63 : decode cX7_run 63 = .ok (.iload 4, 2) := by decide +kernel
theorem dX7_run_65 : decode cX7_run 65 = .ok (.aaload, 1) := by decide +kernel
theorem dX7_run_66 : decode cX7_run 66 = .ok (.aload_n 0, 1) := by decide +kernel
theorem dX7_run_67 : decode cX7_run 67 = .ok (.getfield 44, 3) := by decide +kernel
theorem dX7_run_70 : decode cX7_run 70 = .ok (.aload_n 0, 1) := by decide +kernel
theorem dX7_run_71 : decode cX7_run 71 = .ok (.getfield 86, 3) := by decide +kernel
theorem dX7_run_74 : decode cX7_run 74 = .ok (.invokevirtual 237, 3) := by decide +kernel
theorem dX7_run_77 : decode cX7_run 77 = .ok (.ifCond .eq 7, 3) := by decide +kernel
theorem dX7_run_80 : decode cX7_run 80 = .ok (.iconst 1, 1) := by decide +kernel
theorem dX7_run_81 : decode cX7_run 81 = .ok (.goto 4, 3) := by decide +kernel
theorem dX7_run_84 : decode cX7_run 84 = .ok (.iconst 0, 1) := by decide +kernel
theorem dX7_run_85 : decode cX7_run 85 = .ok (.iadd, 1) := by decide +kernel
theorem dX7_run_86 : decode cX7_run 86 = .ok (.istore_n 2, 1) := by decide +kernel
theorem dX7_run_87 : decode cX7_run 87 = .ok (.iinc 4 1, 3) := by decide +kernel
theorem dX7_run_90 : decode cX7_run 90 = .ok (.goto (-42), 3) := by decide +kernel
theorem dX7_run_93 : decode cX7_run 93 = .ok (.aload_n 0, 1) := by decide +kernel
theorem dX7_run_94 : decode cX7_run 94 = .ok (.dup, 1) := by decide +kernel
theorem dX7_run_95 : decode cX7_run 95 = .ok (.getfield 86, 3) := by decide +kernel
theorem dX7_run_98 : decode cX7_run 98 = .ok (.iconst 1, 1) := by decide +kernel
theorem dX7_run_99 : decode cX7_run 99 = .ok (.iadd, 1) := by decide +kernel
theorem dX7_run_100 : decode cX7_run 100 = .ok (.putfield 86, 3) := by decide +kernel
theorem dX7_run_103 : decode cX7_run 103 = .ok (.iinc 3 1, 3) := by decide +kernel
theorem dX7_run_106 : decode cX7_run 106 = .ok (.goto (-73), 3) := by decide +kernel
theorem dX7_run_109 : decode cX7_run 109 = .ok (.iload_n 2, 1) := by decide +kernel
theorem dX7_run_110 : decode cX7_run 110 = .ok (.ireturn, 1) := by decide +kernel
theorem dX7_sell_0 : decode cX7_sell 0 = .ok (.aload_n 0, 1) := by decide +kernel
theorem dX7_sell_1 : decode cX7_sell 1 = .ok (.iload_n 1, 1) := by decide +kernel
theorem dX7_sell_2 : decode cX7_sell 2 = .ok (.invokevirtual 148, 3) := by decide +kernel
theorem dX7_sell_5 : decode cX7_sell 5 = .ok (.ifCond .ne 10, 3) := by decide +kernel
theorem dX7_sell_8 : decode cX7_sell 8 = .ok (.aload_n 0, 1) := by decide +kernel
theorem dX7_sell_9 : decode cX7_sell 9 = .ok (.bipush (-3), 2) := by decide +kernel
theorem dX7_sell_11 : decode cX7_sell 11 = .ok (.invokevirtual 104, 3) := by decide +kernel
theorem dX7_sell_14 : decode cX7_sell 14 = .ok (.ireturn, 1) := by decide +kernel
theorem dX7_sell_15 : decode cX7_sell 15 = .ok (.aload_n 0, 1) := by decide +kernel
theorem dX7_sell_16 : decode cX7_sell 16 = .ok (.getfield 17, 3) := by decide +kernel
theorem dX7_sell_19 : decode cX7_sell 19 = .ok (.iload_n 1, 1) := by decide +kernel
theorem dX7_sell_20 : decode cX7_sell 20 = .ok (.aaload, 1) := by decide +kernel
theorem dX7_sell_21 : decode cX7_sell 21 = .ok (.astore_n 2, 1) := by decide +kernel
theorem dX7_sell_22 : decode cX7_sell 22 = .ok (.aload_n 0, 1) := by decide +kernel
theorem dX7_sell_23 : decode cX7_sell 23 = .ok (.getfield 11, 3) := by decide +kernel
theorem dX7_sell_26 : decode cX7_sell 26 = .ok (.aload_n 2, 1) := by decide +kernel
theorem dX7_sell_27 : decode cX7_sell 27 = .ok (.getfield 179, 3) := by decide +kernel
theorem dX7_sell_30 : decode cX7_sell 30 = .ok (.aaload, 1) := by decide +kernel
theorem dX7_sell_31 : decode cX7_sell 31 = .ok (.astore_n 3, 1) := by decide +kernel
theorem dX7_sell_32 : decode cX7_sell 32 = .ok (.aload_n 2, 1) := by decide +kernel
theorem dX7_sell_33 : decode cX7_sell 33 = .ok (.getfield 215, 3) := by decide +kernel
theorem dX7_sell_36 : decode cX7_sell 36 = .ok (.ifCond .eq 10, 3) := by decide +kernel
theorem dX7_sell_39 : decode cX7_sell 39 = .ok (.aload_n 3, 1) := by decide +kernel
theorem dX7_sell_40 : decode cX7_sell 40 = .ok (.getfield 119, 3) := by decide +kernel
theorem dX7_sell_43 : decode cX7_sell 43 = .ok (.ifCond .ne 10, 3) := by decide +kernel
theorem dX7_sell_46 : decode cX7_sell 46 = .ok (.aload_n 0, 1) := by decide +kernel
theorem dX7_sell_47 : decode cX7_sell 47 = .ok (.bipush (-7), 2) := by decide +kernel
theorem dX7_sell_49 : decode cX7_sell 49 = .ok (.invokevirtual 104, 3) := by decide +kernel
theorem dX7_sell_52 : decode cX7_sell 52 = .ok (.ireturn, 1) := by decide +kernel
theorem dX7_sell_53 : decode cX7_sell 53 = .ok (.aload_n 3, 1) := by decide +kernel
theorem dX7_sell_54 : decode cX7_sell 54 = .ok (.aload_n 2, 1) := by decide +kernel
theorem dX7_sell_55 : decode cX7_sell 55 = .ok (.aload_n 0, 1) := by decide +kernel
theorem dX7_sell_56 : decode cX7_sell 56 = .ok (.getfield 86, 3) := by decide +kernel
theorem dX7_sell_59 : decode cX7_sell 59 = .ok (.invokevirtual 241, 3) := by decide +kernel
theorem dX7_sell_62 : decode cX7_sell 62 = .ok (.istore 4, 2) := by decide +kernel
theorem dX7_sell_64 : decode cX7_sell 64 = .ok (.aload_n 3, 1) := by decide +kernel
theorem dX7_sell_65 : decode cX7_sell 65 = .ok (.aload_n 0, 1) := by decide +kernel
theorem dX7_sell_66 : decode cX7_sell 66 = .ok (.getfield 86, 3) := by decide +kernel
theorem dX7_sell_69 : decode cX7_sell 69 = .ok (.invokevirtual 245, 3) := by decide +kernel
theorem dX7_sell_72 : decode cX7_sell 72 = .ok (.aload_n 2, 1) := by decide +kernel
theorem dX7_sell_73 : decode cX7_sell 73 = .ok (.invokevirtual 248, 3) := by decide +kernel
theorem dX7_sell_76 : decode cX7_sell 76 = .ok (.aload_n 2, 1) := by decide +kernel
theorem dX7_sell_77 : decode cX7_sell 77 = .ok (.iconst 0, 1) := by decide +kernel
theorem dX7_sell_78 : decode cX7_sell 78 = .ok (.putfield 215, 3) := by decide +kernel
theorem dX7_sell_81 : decode cX7_sell 81 = .ok (.aload_n 0, 1) := by decide +kernel
theorem dX7_sell_82 : decode cX7_sell 82 = .ok (.dup, 1) := by decide +kernel
theorem dX7_sell_83 : decode cX7_sell 83 = .ok (.getfield 89, 3) := by decide +kernel
theorem dX7_sell_86 : decode cX7_sell 86 = .ok (.iconst 1, 1) := by decide +kernel
theorem dX7_sell_87 : decode cX7_sell 87 = .ok (.iadd, 1) := by decide +kernel
theorem dX7_sell_88 : decode cX7_sell 88 = .ok (.putfield 89, 3) := by decide +kernel
theorem dX7_sell_91 : decode cX7_sell 91 = .ok (.aload_n 0, 1) := by decide +kernel
theorem dX7_sell_92 : decode cX7_sell 92 = .ok (.dup, 1) := by decide +kernel
theorem dX7_sell_93 : decode cX7_sell 93 = .ok (.getfield 92, 3) := by decide +kernel
theorem dX7_sell_96 : decode cX7_sell 96 = .ok (.iload 4, 2) := by decide +kernel
theorem dX7_sell_98 : decode cX7_sell 98 = .ok (.iadd, 1) := by decide +kernel
theorem dX7_sell_99 : decode cX7_sell 99 = .ok (.putfield 92, 3) := by decide +kernel
theorem dX7_sell_102 : decode cX7_sell 102 = .ok (.iload 4, 2) := by decide +kernel
theorem dX7_sell_104 : decode cX7_sell 104 = .ok (.ireturn, 1) := by decide +kernel
theorem dX7_worth_0 : decode cX7_worth 0 = .ok (.aload_n 0, 1) := by decide +kernel
theorem dX7_worth_1 : decode cX7_worth 1 = .ok (.iload_n 1, 1) := by decide +kernel
theorem dX7_worth_2 : decode cX7_worth 2 = .ok (.invokevirtual 148, 3) := by decide +kernel
theorem dX7_worth_5 : decode cX7_worth 5 = .ok (.ifCond .eq 11, 3) := by decide +kernel
theorem dX7_worth_8 : decode cX7_worth 8 = .ok (.aload_n 0, 1) := by decide +kernel
theorem dX7_worth_9 : decode cX7_worth 9 = .ok (.iload_n 2, 1) := by decide +kernel
theorem dX7_worth_10 : decode cX7_worth 10 = .ok (.invokevirtual 108, 3) := by decide +kernel
theorem dX7_worth_13 : decode cX7_worth 13 = .ok (.ifCond .ne 10, 3) := by decide +kernel
theorem dX7_worth_16 : decode cX7_worth 16 = .ok (.aload_n 0, 1) := by decide +kernel
theorem dX7_worth_17 : decode cX7_worth 17 = .ok (.bipush (-3), 2) := by decide +kernel
theorem dX7_worth_19 : decode cX7_worth 19 = .ok (.invokevirtual 104, 3) := by decide +kernel
theorem dX7_worth_22 : decode cX7_worth 22 = .ok (.ireturn, 1) := by decide +kernel
theorem dX7_worth_23 : decode cX7_worth 23 = .ok (.aload_n 0, 1) := by decide +kernel
theorem dX7_worth_24 : decode cX7_worth 24 = .ok (.aload_n 0, 1) := by decide +kernel
theorem dX7_worth_25 : decode cX7_worth 25 = .ok (.getfield 17, 3) := by decide +kernel
theorem dX7_worth_28 : decode cX7_worth 28 = .ok (.iload_n 1, 1) := by decide +kernel
theorem dX7_worth_29 : decode cX7_worth 29 = .ok (.aaload, 1) := by decide +kernel
theorem dX7_worth_30 : decode cX7_worth 30 = .ok (.iload_n 2, 1) := by decide +kernel
theorem dX7_worth_31 : decode cX7_worth 31 = .ok (.invokevirtual 251, 3) := by decide +kernel
theorem dX7_worth_34 : decode cX7_worth 34 = .ok (.ifCond .ne 10, 3) := by decide +kernel
theorem dX7_worth_37 : decode cX7_worth 37 = .ok (.aload_n 0, 1) := by decide +kernel
theorem dX7_worth_38 : decode cX7_worth 38 = .ok (.bipush (-7), 2) := by decide +kernel
theorem dX7_worth_40 : decode cX7_worth 40 = .ok (.invokevirtual 104, 3) := by decide +kernel
theorem dX7_worth_43 : decode cX7_worth 43 = .ok (.ireturn, 1) := by decide +kernel
theorem dX7_worth_44 : decode cX7_worth 44 = .ok (.aload_n 0, 1) := by decide +kernel
theorem dX7_worth_45 : decode cX7_worth 45 = .ok (.aload_n 0, 1) := by decide +kernel
theorem dX7_worth_46 : decode cX7_worth 46 = .ok (.getfield 17, 3) := by decide +kernel
theorem dX7_worth_49 : decode cX7_worth 49 = .ok (.iload_n 1, 1) := by decide +kernel
theorem dX7_worth_50 : decode cX7_worth 50 = .ok (.aaload, 1) := by decide +kernel
theorem dX7_worth_51 : decode cX7_worth 51 = .ok (.iload_n 2, 1) := by decide +kernel
theorem dX7_worth_52 : decode cX7_worth 52 = .ok (.invokevirtual 255, 3) := by decide +kernel
theorem dX7_worth_55 : decode cX7_worth 55 = .ok (.ireturn, 1) := by decide +kernel
theorem dX7_best_0 : decode cX7_best 0 = .ok (.aload_n 0, 1) := by decide +kernel
theorem dX7_best_1 : decode cX7_best 1 = .ok (.iload_n 1, 1) := by decide +kernel
theorem dX7_best_2 : decode cX7_best 2 = .ok (.invokevirtual 148, 3) := by decide +kernel
theorem dX7_best_5 : decode cX7_best 5 = .ok (.ifCond .ne 10, 3) := by decide +kernel
theorem dX7_best_8 : decode cX7_best 8 = .ok (.aload_n 0, 1) := by decide +kernel
theorem dX7_best_9 : decode cX7_best 9 = .ok (.bipush (-3), 2) := by decide +kernel
theorem dX7_best_11 : decode cX7_best 11 = .ok (.invokevirtual 104, 3) := by decide +kernel
theorem dX7_best_14 : decode cX7_best 14 = .ok (.ireturn, 1) := by decide +kernel
theorem dX7_best_15 : decode cX7_best 15 = .ok (.iconst (-1), 1) := by decide +kernel
theorem dX7_best_16 : decode cX7_best 16 = .ok (.istore_n 2, 1) := by decide +kernel
theorem dX7_best_17 : decode cX7_best 17 = .ok (.iconst (-1), 1) := by decide +kernel
theorem dX7_best_18 : decode cX7_best 18 = .ok (.istore_n 3, 1) := by decide +kernel
theorem dX7_best_19 : decode cX7_best 19 = .ok (.iconst 0, 1) := by decide +kernel
theorem dX7_best_20 : decode cX7_best 20 = .ok (.istore 4, 2) := by decide +kernel
theorem dX7_best_22 : decode cX7_best 22 = .ok (.iload 4, 2) := by decide +kernel
theorem dX7_best_24 : decode cX7_best 24 = .ok (.aload_n 0, 1) := by decide +kernel
theorem dX7_best_25 : decode cX7_best 25 = .ok (.getfield 76, 3) := by decide +kernel
theorem dX7_best_28 : decode cX7_best 28 = .ok (.if_icmp .ge 50, 3) := by decide +kernel
theorem dX7_best_31 : decode cX7_best 31 = .ok (.aload_n 0, 1) := by decide +kernel
theorem dX7_best_32 : decode cX7_best 32 = .ok (.aload_n 0, 1) := by decide +kernel
theorem dX7_best_33 : decode cX7_best 33 = .ok (.getfield 17, 3) := by decide +kernel
theorem dX7_best_36 : decode cX7_best 36 = .ok (.iload_n 1, 1) := by decide +kernel
theorem dX7_best_37 : decode cX7_best 37 = .ok (.aaload, 1) := by decide +kernel
theorem dX7_best_38 : decode cX7_best 38 = .ok (.iload 4, 2) := by decide +kernel
theorem dX7_best_40 : decode cX7_best 40 = .ok (.invokevirtual 251, 3) := by decide +kernel
theorem dX7_best_43 : decode cX7_best 43 = .ok (.ifCond .eq 29, 3) := by decide +kernel
theorem dX7_best_46 : decode cX7_best 46 = .ok (.aload_n 0, 1) := by decide +kernel
theorem dX7_best_47 : decode cX7_best 47 = .ok (.aload_n 0, 1) := by decide +kernel
theorem dX7_best_48 : decode cX7_best 48 = .ok (.getfield 17, 3) := by decide +kernel
theorem dX7_best_51 : decode cX7_best 51 = .ok (.iload_n 1, 1) := by decide +kernel
theorem dX7_best_52 : decode cX7_best 52 = .ok (.aaload, 1) := by decide +kernel
theorem dX7_best_53 : decode cX7_best 53 = .ok (.iload 4, 2) := by decide +kernel
theorem dX7_best_55 : decode cX7_best 55 = .ok (.invokevirtual 255, 3) := by decide +kernel
theorem dX7_best_58 : decode cX7_best 58 = .ok (.istore 5, 2) := by decide +kernel
theorem dX7_best_60 : decode cX7_best 60 = .ok (.iload 5, 2) := by decide +kernel
theorem dX7_best_62 : decode cX7_best 62 = .ok (.iload_n 3, 1) := by decide +kernel
theorem dX7_best_63 : decode cX7_best 63 = .ok (.if_icmp .le 9, 3) := by decide +kernel
theorem dX7_best_66 : decode cX7_best 66 = .ok (.iload 5, 2) := by decide +kernel
theorem dX7_best_68 : decode cX7_best 68 = .ok (.istore_n 3, 1) := by decide +kernel
theorem dX7_best_69 : decode cX7_best 69 = .ok (.iload 4, 2) := by decide +kernel
theorem dX7_best_71 : decode cX7_best 71 = .ok (.istore_n 2, 1) := by decide +kernel
theorem dX7_best_72 : decode cX7_best 72 = .ok (.iinc 4 1, 3) := by decide +kernel
theorem dX7_best_75 : decode cX7_best 75 = .ok (.goto (-53), 3) := by decide +kernel
theorem dX7_best_78 : decode cX7_best 78 = .ok (.iload_n 2, 1) := by decide +kernel
theorem dX7_best_79 : decode cX7_best 79 = .ok (.ireturn, 1) := by decide +kernel
theorem dX7_claim_0 : decode cX7_claim 0 = .ok (.aload_n 0, 1) := by decide +kernel
theorem dX7_claim_1 : decode cX7_claim 1 = .ok (.iload_n 1, 1) := by decide +kernel
theorem dX7_claim_2 : decode cX7_claim 2 = .ok (.invokevirtual 148, 3) := by decide +kernel
theorem dX7_claim_5 : decode cX7_claim 5 = .ok (.ifCond .ne 10, 3) := by decide +kernel
theorem dX7_claim_8 : decode cX7_claim 8 = .ok (.aload_n 0, 1) := by decide +kernel
theorem dX7_claim_9 : decode cX7_claim 9 = .ok (.bipush (-3), 2) := by decide +kernel
theorem dX7_claim_11 : decode cX7_claim 11 = .ok (.invokevirtual 104, 3) := by decide +kernel
theorem dX7_claim_14 : decode cX7_claim 14 = .ok (.ireturn, 1) := by decide +kernel
theorem dX7_claim_15 : decode cX7_claim 15 = .ok (.iload_n 2, 1) := by decide +kernel
theorem dX7_claim_16 : decode cX7_claim 16 = .ok (.iconst 0, 1) := by decide +kernel
theorem dX7_claim_17 : decode cX7_claim 17 = .ok (.iconst 2, 1) := by decide +kernel
theorem dX7_claim_18 : decode cX7_claim 18 = .ok (.invokestatic 100, 3) := by decide +kernel
theorem dX7_claim_21 : decode cX7_claim 21 = .ok (.ifCond .ne 10, 3) := by decide +kernel
theorem dX7_claim_24 : decode cX7_claim 24 = .ok (.aload_n 0, 1) := by decide +kernel
theorem dX7_claim_25 : decode cX7_claim 25 = .ok (.bipush (-7), 2) := by decide +kernel
theorem dX7_claim_27 : decode cX7_claim 27 = .ok (.invokevirtual 104, 3) := by decide +kernel
theorem dX7_claim_30 : decode cX7_claim 30 = .ok (.ireturn, 1) := by decide +kernel
theorem dX7_claim_31 : decode cX7_claim 31 = .ok (.aload_n 0, 1) := by decide +kernel
theorem dX7_claim_32 : decode cX7_claim 32 = .ok (.getfield 17, 3) := by decide +kernel
theorem dX7_claim_35 : decode cX7_claim 35 = .ok (.iload_n 1, 1) := by decide +kernel
theorem dX7_claim_36 : decode cX7_claim 36 = .ok (.aaload, 1) := by decide +kernel
theorem dX7_claim_37 : decode cX7_claim 37 = .ok (.getfield 258, 3) := by decide +kernel
theorem dX7_claim_40 : decode cX7_claim 40 = .ok (.iload_n 2, 1) := by decide +kernel
theorem dX7_claim_41 : decode cX7_claim 41 = .ok (.iaload, 1) := by decide +kernel
theorem dX7_claim_42 : decode cX7_claim 42 = .ok (.ireturn, 1) := by decide +kernel
theorem dX7_count_0 : decode cX7_count 0 = .ok (.iload_n 1, 1) := by decide +kernel
theorem dX7_count_1 : decode cX7_count 1 = .ok (.tableswitch 105 0 8 #[51, 56, 61, 66, 71, 79, 87, 95, 100], 51) := by decide +kernel
theorem dX7_count_52 : decode cX7_count 52 = .ok (.aload_n 0, 1) := by decide +kernel
theorem dX7_count_53 : decode cX7_count 53 = .ok (.getfield 86, 3) := by decide +kernel
theorem dX7_count_56 : decode cX7_count 56 = .ok (.ireturn, 1) := by decide +kernel
theorem dX7_count_57 : decode cX7_count 57 = .ok (.aload_n 0, 1) := by decide +kernel
theorem dX7_count_58 : decode cX7_count 58 = .ok (.getfield 76, 3) := by decide +kernel
theorem dX7_count_61 : decode cX7_count 61 = .ok (.ireturn, 1) := by decide +kernel
theorem dX7_count_62 : decode cX7_count 62 = .ok (.aload_n 0, 1) := by decide +kernel
theorem dX7_count_63 : decode cX7_count 63 = .ok (.getfield 80, 3) := by decide +kernel
theorem dX7_count_66 : decode cX7_count 66 = .ok (.ireturn, 1) := by decide +kernel
theorem dX7_count_67 : decode cX7_count 67 = .ok (.aload_n 0, 1) := by decide +kernel
theorem dX7_count_68 : decode cX7_count 68 = .ok (.getfield 83, 3) := by decide +kernel
theorem dX7_count_71 : decode cX7_count 71 = .ok (.ireturn, 1) := by decide +kernel
theorem dX7_count_72 : decode cX7_count 72 = .ok (.aload_n 0, 1) := by decide +kernel
theorem dX7_count_73 : decode cX7_count 73 = .ok (.getfield 30, 3) := by decide +kernel
theorem dX7_count_76 : decode cX7_count 76 = .ok (.getfield 218, 3) := by decide +kernel
theorem dX7_count_79 : decode cX7_count 79 = .ok (.ireturn, 1) := by decide +kernel
theorem dX7_count_80 : decode cX7_count 80 = .ok (.aload_n 0, 1) := by decide +kernel
theorem dX7_count_81 : decode cX7_count 81 = .ok (.getfield 44, 3) := by decide +kernel
theorem dX7_count_84 : decode cX7_count 84 = .ok (.getfield 261, 3) := by decide +kernel
theorem dX7_count_87 : decode cX7_count 87 = .ok (.ireturn, 1) := by decide +kernel
theorem dX7_count_88 : decode cX7_count 88 = .ok (.aload_n 0, 1) := by decide +kernel
theorem dX7_count_89 : decode cX7_count 89 = .ok (.getfield 44, 3) := by decide +kernel
theorem dX7_count_92 : decode cX7_count 92 = .ok (.getfield 264, 3) := by decide +kernel
theorem dX7_count_95 : decode cX7_count 95 = .ok (.ireturn, 1) := by decide +kernel
theorem dX7_count_96 : decode cX7_count 96 = .ok (.aload_n 0, 1) := by decide +kernel
theorem dX7_count_97 : decode cX7_count 97 = .ok (.getfield 89, 3) := by decide +kernel
theorem dX7_count_100 : decode cX7_count 100 = .ok (.ireturn, 1) := by decide +kernel
theorem dX7_count_101 : decode cX7_count 101 = .ok (.aload_n 0, 1) := by decide +kernel
theorem dX7_count_102 : decode cX7_count 102 = .ok (.getfield 92, 3) := by decide +kernel
theorem dX7_count_105 : decode cX7_count 105 = .ok (.ireturn, 1) := by decide +kernel
theorem dX7_count_106 : decode cX7_count 106 = .ok (.aload_n 0, 1) := by decide +kernel
theorem dX7_count_107 : decode cX7_count 107 = .ok (.bipush (-7), 2) := by decide +kernel
theorem dX7_count_109 : decode cX7_count 109 = .ok (.invokevirtual 104, 3) := by decide +kernel
theorem dX7_count_112 : decode cX7_count 112 = .ok (.ireturn, 1) := by decide +kernel
theorem dX7_at_0 : decode cX7_at 0 = .ok (.aload_n 0, 1) := by decide +kernel
theorem dX7_at_1 : decode cX7_at 1 = .ok (.iload_n 1, 1) := by decide +kernel
theorem dX7_at_2 : decode cX7_at 2 = .ok (.invokevirtual 108, 3) := by decide +kernel
theorem dX7_at_5 : decode cX7_at 5 = .ok (.ifCond .ne 10, 3) := by decide +kernel
theorem dX7_at_8 : decode cX7_at 8 = .ok (.aload_n 0, 1) := by decide +kernel
theorem dX7_at_9 : decode cX7_at 9 = .ok (.bipush (-3), 2) := by decide +kernel
theorem dX7_at_11 : decode cX7_at 11 = .ok (.invokevirtual 104, 3) := by decide +kernel
theorem dX7_at_14 : decode cX7_at 14 = .ok (.ireturn, 1) := by decide +kernel
theorem dX7_at_15 : decode cX7_at 15 = .ok (.aload_n 0, 1) := by decide +kernel
theorem dX7_at_16 : decode cX7_at 16 = .ok (.getfield 11, 3) := by decide +kernel
theorem dX7_at_19 : decode cX7_at 19 = .ok (.iload_n 1, 1) := by decide +kernel
theorem dX7_at_20 : decode cX7_at 20 = .ok (.aaload, 1) := by decide +kernel
theorem dX7_at_21 : decode cX7_at 21 = .ok (.astore_n 3, 1) := by decide +kernel
theorem dX7_at_22 : decode cX7_at 22 = .ok (.iload_n 2, 1) := by decide +kernel
theorem dX7_at_23 : decode cX7_at 23 = .ok (.tableswitch 63 0 4 #[33, 43, 48, 53, 58], 33) := by decide +kernel
theorem dX7_at_56 : decode cX7_at 56 = .ok (.aload_n 0, 1) := by decide +kernel
theorem dX7_at_57 : decode cX7_at 57 = .ok (.getfield 44, 3) := by decide +kernel
theorem dX7_at_60 : decode cX7_at 60 = .ok (.getfield 112, 3) := by decide +kernel
theorem dX7_at_63 : decode cX7_at 63 = .ok (.iload_n 1, 1) := by decide +kernel
theorem dX7_at_64 : decode cX7_at 64 = .ok (.iaload, 1) := by decide +kernel
theorem dX7_at_65 : decode cX7_at 65 = .ok (.ireturn, 1) := by decide +kernel
theorem dX7_at_66 : decode cX7_at 66 = .ok (.aload_n 3, 1) := by decide +kernel
