theorem dX8_car_127 : decode cX8_car 127 = .ok (.iload 4, 2) := by decide +kernel
theorem dX8_car_129 : decode cX8_car 129 = .ok (.imul, 1) := by decide +kernel
theorem dX8_car_130 : decode cX8_car 130 = .ok (.iload 5, 2) := by decide +kernel
theorem dX8_car_132 : decode cX8_car 132 = .ok (.iadd, 1) := by decide +kernel
theorem dX8_car_133 : decode cX8_car 133 = .ok (.iconst (-1), 1) := by decide +kernel
theorem dX8_car_134 : decode cX8_car 134 = .ok (.iastore, 1) := by decide +kernel
theorem dX8_car_135 : decode cX8_car 135 = .ok (.iinc 5 1, 3) := by decide +kernel
theorem dX8_car_138 : decode cX8_car 138 = .ok (.goto (-35), 3) := by decide +kernel
theorem dX8_car_141 : decode cX8_car 141 = .ok (.iload 4, 2) := by decide +kernel
theorem dX8_car_143 : decode cX8_car 143 = .ok (.ireturn, 1) := by decide +kernel
theorem dX8_load_0 : decode cX8_load 0 = .ok (.aload_n 0, 1) := by decide +kernel
theorem dX8_load_1 : decode cX8_load 1 = .ok (.iload_n 1, 1) := by decide +kernel
theorem dX8_load_2 : decode cX8_load 2 = .ok (.invokevirtual 168, 3) := by decide +kernel
theorem dX8_load_5 : decode cX8_load 5 = .ok (.ifCond .eq 15, 3) := by decide +kernel
theorem dX8_load_8 : decode cX8_load 8 = .ok (.iload_n 2, 1) := by decide +kernel
theorem dX8_load_9 : decode cX8_load 9 = .ok (.ifCond .lt 11, 3) := by decide +kernel
theorem dX8_load_12 : decode cX8_load 12 = .ok (.iload_n 2, 1) := by decide +kernel
theorem dX8_load_13 : decode cX8_load 13 = .ok (.bipush 10, 2) := by decide +kernel
theorem dX8_load_15 : decode cX8_load 15 = .ok (.irem, 1) := by decide +kernel
theorem dX8_load_16 : decode cX8_load 16 = .ok (.iconst 3, 1) := by decide +kernel
theorem dX8_load_17 : decode cX8_load 17 = .ok (.if_icmp .le 10, 3) := by decide +kernel
theorem dX8_load_20 : decode cX8_load 20 = .ok (.aload_n 0, 1) := by decide +kernel
theorem dX8_load_21 : decode cX8_load 21 = .ok (.bipush (-3), 2) := by decide +kernel
theorem dX8_load_23 : decode cX8_load 23 = .ok (.invokevirtual 148, 3) := by decide +kernel
theorem dX8_load_26 : decode cX8_load 26 = .ok (.ireturn, 1) := by decide +kernel
theorem dX8_load_27 : decode cX8_load 27 = .ok (.iload_n 2, 1) := by decide +kernel
theorem dX8_load_28 : decode cX8_load 28 = .ok (.bipush 10, 2) := by decide +kernel
theorem dX8_load_30 : decode cX8_load 30 = .ok (.idiv, 1) := by decide +kernel
theorem dX8_load_31 : decode cX8_load 31 = .ok (.istore 7, 2) := by decide +kernel
theorem dX8_load_33 : decode cX8_load 33 = .ok (.iconst 4, 1) := by decide +kernel
theorem dX8_load_34 : decode cX8_load 34 = .ok (.iload_n 1, 1) := by decide +kernel
theorem dX8_load_35 : decode cX8_load 35 = .ok (.imul, 1) := by decide +kernel
theorem dX8_load_36 : decode cX8_load 36 = .ok (.iload_n 2, 1) := by decide +kernel
theorem dX8_load_37 : decode cX8_load 37 = .ok (.bipush 10, 2) := by decide +kernel
theorem dX8_load_39 : decode cX8_load 39 = .ok (.irem, 1) := by decide +kernel
theorem dX8_load_40 : decode cX8_load 40 = .ok (.iadd, 1) := by decide +kernel
theorem dX8_load_41 : decode cX8_load 41 = .ok (.istore 8, 2) := by decide +kernel
theorem dX8_load_43 : decode cX8_load 43 = .ok (.iload 7, 2) := by decide +kernel
theorem dX8_load_45 : decode cX8_load 45 = .ok (.iconst 4, 1) := by decide +kernel
theorem dX8_load_46 : decode cX8_load 46 = .ok (.if_icmp .gt 64, 3) := by decide +kernel
theorem dX8_load_49 : decode cX8_load 49 = .ok (.iload_n 3, 1) := by decide +kernel
theorem dX8_load_50 : decode cX8_load 50 = .ok (.iconst 1, 1) := by decide +kernel
theorem dX8_load_51 : decode cX8_load 51 = .ok (.if_icmp .lt 59, 3) := by decide +kernel
theorem dX8_load_54 : decode cX8_load 54 = .ok (.iload_n 3, 1) := by decide +kernel
theorem dX8_load_55 : decode cX8_load 55 = .ok (.sipush 500, 3) := by decide +kernel
theorem dX8_load_58 : decode cX8_load 58 = .ok (.if_icmp .gt 52, 3) := by decide +kernel
theorem dX8_load_61 : decode cX8_load 61 = .ok (.iload 4, 2) := by decide +kernel
theorem dX8_load_63 : decode cX8_load 63 = .ok (.iconst 1, 1) := by decide +kernel
theorem dX8_load_64 : decode cX8_load 64 = .ok (.if_icmp .lt 46, 3) := by decide +kernel
theorem dX8_load_67 : decode cX8_load 67 = .ok (.iload 4, 2) := by decide +kernel
theorem dX8_load_69 : decode cX8_load 69 = .ok (.sipush 10000, 3) := by decide +kernel
theorem dX8_load_72 : decode cX8_load 72 = .ok (.if_icmp .gt 38, 3) := by decide +kernel
theorem dX8_load_75 : decode cX8_load 75 = .ok (.iload 7, 2) := by decide +kernel
theorem dX8_load_77 : decode cX8_load 77 = .ok (.iconst 2, 1) := by decide +kernel
theorem dX8_load_78 : decode cX8_load 78 = .ok (.if_icmp .ne 16, 3) := by decide +kernel
theorem dX8_load_81 : decode cX8_load 81 = .ok (.iload 5, 2) := by decide +kernel
theorem dX8_load_83 : decode cX8_load 83 = .ok (.iconst 1, 1) := by decide +kernel
theorem dX8_load_84 : decode cX8_load 84 = .ok (.if_icmp .lt 26, 3) := by decide +kernel
theorem dX8_load_87 : decode cX8_load 87 = .ok (.iload 5, 2) := by decide +kernel
theorem dX8_load_89 : decode cX8_load 89 = .ok (.bipush 99, 2) := by decide +kernel
theorem dX8_load_91 : decode cX8_load 91 = .ok (.if_icmp .gt 19, 3) := by decide +kernel
theorem dX8_load_94 : decode cX8_load 94 = .ok (.iload 6, 2) := by decide +kernel
theorem dX8_load_96 : decode cX8_load 96 = .ok (.sipush (-400), 3) := by decide +kernel
theorem dX8_load_99 : decode cX8_load 99 = .ok (.if_icmp .lt 11, 3) := by decide +kernel
theorem dX8_load_102 : decode cX8_load 102 = .ok (.iload 6, 2) := by decide +kernel
theorem dX8_load_104 : decode cX8_load 104 = .ok (.sipush 500, 3) := by decide +kernel
theorem dX8_load_107 : decode cX8_load 107 = .ok (.if_icmp .le 10, 3) := by decide +kernel
theorem dX8_load_110 : decode cX8_load 110 = .ok (.aload_n 0, 1) := by decide +kernel
theorem dX8_load_111 : decode cX8_load 111 = .ok (.bipush (-7), 2) := by decide +kernel
theorem dX8_load_113 : decode cX8_load 113 = .ok (.invokevirtual 148, 3) := by decide +kernel
theorem dX8_load_116 : decode cX8_load 116 = .ok (.ireturn, 1) := by decide +kernel
theorem dX8_load_117 : decode cX8_load 117 = .ok (.aload_n 0, 1) := by decide +kernel
theorem dX8_load_118 : decode cX8_load 118 = .ok (.getfield 56, 3) := by decide +kernel
theorem dX8_load_121 : decode cX8_load 121 = .ok (.iload_n 1, 1) := by decide +kernel
theorem dX8_load_122 : decode cX8_load 122 = .ok (.iaload, 1) := by decide +kernel
theorem dX8_load_123 : decode cX8_load 123 = .ok (.iconst (-1), 1) := by decide +kernel
theorem dX8_load_124 : decode cX8_load 124 = .ok (.if_icmp .ne 14, 3) := by decide +kernel
theorem dX8_load_127 : decode cX8_load 127 = .ok (.aload_n 0, 1) := by decide +kernel
theorem dX8_load_128 : decode cX8_load 128 = .ok (.getfield 81, 3) := by decide +kernel
theorem dX8_load_131 : decode cX8_load 131 = .ok (.iload 8, 2) := by decide +kernel
theorem dX8_load_133 : decode cX8_load 133 = .ok (.iaload, 1) := by decide +kernel
theorem dX8_load_134 : decode cX8_load 134 = .ok (.iconst (-1), 1) := by decide +kernel
theorem dX8_load_135 : decode cX8_load 135 = .ok (.if_icmp .eq 10, 3) := by decide +kernel
theorem dX8_load_138 : decode cX8_load 138 = .ok (.aload_n 0, 1) := by decide +kernel
theorem dX8_load_139 : decode cX8_load 139 = .ok (.bipush (-7), 2) := by decide +kernel
theorem dX8_load_141 : decode cX8_load 141 = .ok (.invokevirtual 148, 3) := by decide +kernel
theorem dX8_load_144 : decode cX8_load 144 = .ok (.ireturn, 1) := by decide +kernel
theorem dX8_load_145 : decode cX8_load 145 = .ok (.aload_n 0, 1) := by decide +kernel
theorem dX8_load_146 : decode cX8_load 146 = .ok (.getfield 81, 3) := by decide +kernel
theorem dX8_load_149 : decode cX8_load 149 = .ok (.iload 8, 2) := by decide +kernel
theorem dX8_load_151 : decode cX8_load 151 = .ok (.iload 7, 2) := by decide +kernel
theorem dX8_load_153 : decode cX8_load 153 = .ok (.iastore, 1) := by decide +kernel
theorem dX8_load_154 : decode cX8_load 154 = .ok (.aload_n 0, 1) := by decide +kernel
theorem dX8_load_155 : decode cX8_load 155 = .ok (.getfield 84, 3) := by decide +kernel
theorem dX8_load_158 : decode cX8_load 158 = .ok (.iload 8, 2) := by decide +kernel
theorem dX8_load_160 : decode cX8_load 160 = .ok (.iload_n 3, 1) := by decide +kernel
theorem dX8_load_161 : decode cX8_load 161 = .ok (.iastore, 1) := by decide +kernel
theorem dX8_load_162 : decode cX8_load 162 = .ok (.aload_n 0, 1) := by decide +kernel
theorem dX8_load_163 : decode cX8_load 163 = .ok (.getfield 87, 3) := by decide +kernel
theorem dX8_load_166 : decode cX8_load 166 = .ok (.iload 8, 2) := by decide +kernel
theorem dX8_load_168 : decode cX8_load 168 = .ok (.iload 4, 2) := by decide +kernel
theorem dX8_load_170 : decode cX8_load 170 = .ok (.iastore, 1) := by decide +kernel
theorem dX8_load_171 : decode cX8_load 171 = .ok (.aload_n 0, 1) := by decide +kernel
theorem dX8_load_172 : decode cX8_load 172 = .ok (.getfield 90, 3) := by decide +kernel
theorem dX8_load_175 : decode cX8_load 175 = .ok (.iload 8, 2) := by decide +kernel
theorem dX8_load_177 : decode cX8_load 177 = .ok (.iload 5, 2) := by decide +kernel
theorem dX8_load_179 : decode cX8_load 179 = .ok (.iastore, 1) := by decide +kernel
theorem dX8_load_180 : decode cX8_load 180 = .ok (.aload_n 0, 1) := by decide +kernel
theorem dX8_load_181 : decode cX8_load 181 = .ok (.getfield 78, 3) := by decide +kernel
theorem dX8_load_184 : decode cX8_load 184 = .ok (.iload 8, 2) := by decide +kernel
theorem dX8_load_186 : decode cX8_load 186 = .ok (.iload 6, 2) := by decide +kernel
theorem dX8_load_188 : decode cX8_load 188 = .ok (.iastore, 1) := by decide +kernel
theorem dX8_load_189 : decode cX8_load 189 = .ok (.aload_n 0, 1) := by decide +kernel
theorem dX8_load_190 : decode cX8_load 190 = .ok (.getfield 93, 3) := by decide +kernel
theorem dX8_load_193 : decode cX8_load 193 = .ok (.iload 8, 2) := by decide +kernel
theorem dX8_load_195 : decode cX8_load 195 = .ok (.iconst 0, 1) := by decide +kernel
theorem dX8_load_196 : decode cX8_load 196 = .ok (.iastore, 1) := by decide +kernel
theorem dX8_load_197 : decode cX8_load 197 = .ok (.iload_n 3, 1) := by decide +kernel
theorem dX8_load_198 : decode cX8_load 198 = .ok (.ireturn, 1) := by decide +kernel
theorem dX8_tier_0 : decode cX8_tier 0 = .ok (.aload_n 0, 1) := by decide +kernel
theorem dX8_tier_1 : decode cX8_tier 1 = .ok (.iload_n 1, 1) := by decide +kernel
theorem dX8_tier_2 : decode cX8_tier 2 = .ok (.invokevirtual 168, 3) := by decide +kernel
theorem dX8_tier_5 : decode cX8_tier 5 = .ok (.ifCond .eq 12, 3) := by decide +kernel
theorem dX8_tier_8 : decode cX8_tier 8 = .ok (.iload_n 2, 1) := by decide +kernel
theorem dX8_tier_9 : decode cX8_tier 9 = .ok (.ifCond .lt 8, 3) := by decide +kernel
theorem dX8_tier_12 : decode cX8_tier 12 = .ok (.iload_n 2, 1) := by decide +kernel
theorem dX8_tier_13 : decode cX8_tier 13 = .ok (.iconst 3, 1) := by decide +kernel
theorem dX8_tier_14 : decode cX8_tier 14 = .ok (.if_icmp .le 10, 3) := by decide +kernel
theorem dX8_tier_17 : decode cX8_tier 17 = .ok (.aload_n 0, 1) := by decide +kernel
theorem dX8_tier_18 : decode cX8_tier 18 = .ok (.bipush (-3), 2) := by decide +kernel
theorem dX8_tier_20 : decode cX8_tier 20 = .ok (.invokevirtual 157, 3) := by decide +kernel
theorem dX8_tier_23 : decode cX8_tier 23 = .ok (.ireturn, 1) := by decide +kernel
theorem dX8_tier_24 : decode cX8_tier 24 = .ok (.iconst 4, 1) := by decide +kernel
theorem dX8_tier_25 : decode cX8_tier 25 = .ok (.iload_n 1, 1) := by decide +kernel
theorem dX8_tier_26 : decode cX8_tier 26 = .ok (.imul, 1) := by decide +kernel
theorem dX8_tier_27 : decode cX8_tier 27 = .ok (.iload_n 2, 1) := by decide +kernel
theorem dX8_tier_28 : decode cX8_tier 28 = .ok (.iadd, 1) := by decide +kernel
theorem dX8_tier_29 : decode cX8_tier 29 = .ok (.istore 4, 2) := by decide +kernel
theorem dX8_tier_31 : decode cX8_tier 31 = .ok (.iload_n 3, 1) := by decide +kernel
theorem dX8_tier_32 : decode cX8_tier 32 = .ok (.tableswitch 121 0 4 #[36, 44, 52, 75, 98], 36) := by decide +kernel
theorem dX8_tier_68 : decode cX8_tier 68 = .ok (.aload_n 0, 1) := by decide +kernel
theorem dX8_tier_69 : decode cX8_tier 69 = .ok (.getfield 78, 3) := by decide +kernel
theorem dX8_tier_72 : decode cX8_tier 72 = .ok (.iload 4, 2) := by decide +kernel
theorem dX8_tier_74 : decode cX8_tier 74 = .ok (.iaload, 1) := by decide +kernel
theorem dX8_tier_75 : decode cX8_tier 75 = .ok (.ireturn, 1) := by decide +kernel
theorem dX8_tier_76 : decode cX8_tier 76 = .ok (.aload_n 0, 1) := by decide +kernel
theorem dX8_tier_77 : decode cX8_tier 77 = .ok (.getfield 81, 3) := by decide +kernel
theorem dX8_tier_80 : decode cX8_tier 80 = .ok (.iload 4, 2) := by decide +kernel
theorem dX8_tier_82 : decode cX8_tier 82 = .ok (.iaload, 1) := by decide +kernel
theorem dX8_tier_83 : decode cX8_tier 83 = .ok (.ireturn, 1) := by decide +kernel
theorem dX8_tier_84 : decode cX8_tier 84 = .ok (.aload_n 0, 1) := by decide +kernel
theorem dX8_tier_85 : decode cX8_tier 85 = .ok (.getfield 81, 3) := by decide +kernel
theorem dX8_tier_88 : decode cX8_tier 88 = .ok (.iload 4, 2) := by decide +kernel
theorem dX8_tier_90 : decode cX8_tier 90 = .ok (.iaload, 1) := by decide +kernel
theorem dX8_tier_91 : decode cX8_tier 91 = .ok (.iconst (-1), 1) := by decide +kernel
theorem dX8_tier_92 : decode cX8_tier 92 = .ok (.if_icmp .ne 7, 3) := by decide +kernel
theorem dX8_tier_95 : decode cX8_tier 95 = .ok (.iconst (-1), 1) := by decide +kernel
theorem dX8_tier_96 : decode cX8_tier 96 = .ok (.goto 10, 3) := by decide +kernel
theorem dX8_tier_99 : decode cX8_tier 99 = .ok (.aload_n 0, 1) := by decide +kernel
theorem dX8_tier_100 : decode cX8_tier 100 = .ok (.getfield 84, 3) := by decide +kernel
theorem dX8_tier_103 : decode cX8_tier 103 = .ok (.iload 4, 2) := by decide +kernel
theorem dX8_tier_105 : decode cX8_tier 105 = .ok (.iaload, 1) := by decide +kernel
theorem dX8_tier_106 : decode cX8_tier 106 = .ok (.ireturn, 1) := by decide +kernel
theorem dX8_tier_107 : decode cX8_tier 107 = .ok (.aload_n 0, 1) := by decide +kernel
theorem dX8_tier_108 : decode cX8_tier 108 = .ok (.getfield 81, 3) := by decide +kernel
theorem dX8_tier_111 : decode cX8_tier 111 = .ok (.iload 4, 2) := by decide +kernel
theorem dX8_tier_113 : decode cX8_tier 113 = .ok (.iaload, 1) := by decide +kernel
theorem dX8_tier_114 : decode cX8_tier 114 = .ok (.iconst (-1), 1) := by decide +kernel
theorem dX8_tier_115 : decode cX8_tier 115 = .ok (.if_icmp .ne 7, 3) := by decide +kernel
theorem dX8_tier_118 : decode cX8_tier 118 = .ok (.iconst (-1), 1) := by decide +kernel
theorem dX8_tier_119 : decode cX8_tier 119 = .ok (.goto 10, 3) := by decide +kernel
theorem dX8_tier_122 : decode cX8_tier 122 = .ok (.aload_n 0, 1) := by decide +kernel
theorem dX8_tier_123 : decode cX8_tier 123 = .ok (.getfield 87, 3) := by decide +kernel
theorem dX8_tier_126 : decode cX8_tier 126 = .ok (.iload 4, 2) := by decide +kernel
theorem dX8_tier_128 : decode cX8_tier 128 = .ok (.iaload, 1) := by decide +kernel
theorem dX8_tier_129 : decode cX8_tier 129 = .ok (.ireturn, 1) := by decide +kernel
theorem dX8_tier_130 : decode cX8_tier 130 = .ok (.aload_n 0, 1) := by decide +kernel
theorem dX8_tier_131 : decode cX8_tier 131 = .ok (.getfield 81, 3) := by decide +kernel
theorem dX8_tier_134 : decode cX8_tier 134 = .ok (.iload 4, 2) := by decide +kernel
theorem dX8_tier_136 : decode cX8_tier 136 = .ok (.iaload, 1) := by decide +kernel
theorem dX8_tier_137 : decode cX8_tier 137 = .ok (.iconst 2, 1) := by decide +kernel
theorem dX8_tier_138 : decode cX8_tier 138 = .ok (.if_icmp .ne 13, 3) := by decide +kernel
theorem dX8_tier_141 : decode cX8_tier 141 = .ok (.aload_n 0, 1) := by decide +kernel
theorem dX8_tier_142 : decode cX8_tier 142 = .ok (.getfield 90, 3) := by decide +kernel
theorem dX8_tier_145 : decode cX8_tier 145 = .ok (.iload 4, 2) := by decide +kernel
theorem dX8_tier_147 : decode cX8_tier 147 = .ok (.iaload, 1) := by decide +kernel
theorem dX8_tier_148 : decode cX8_tier 148 = .ok (.goto 4, 3) := by decide +kernel
theorem dX8_tier_151 : decode cX8_tier 151 = .ok (.iconst (-1), 1) := by decide +kernel
theorem dX8_tier_152 : decode cX8_tier 152 = .ok (.ireturn, 1) := by decide +kernel
theorem dX8_tier_153 : decode cX8_tier 153 = .ok (.aload_n 0, 1) := by decide +kernel
theorem dX8_tier_154 : decode cX8_tier 154 = .ok (.bipush (-7), 2) := by decide +kernel
theorem dX8_tier_156 : decode cX8_tier 156 = .ok (.invokevirtual 157, 3) := by decide +kernel
theorem dX8_tier_159 : decode cX8_tier 159 = .ok (.ireturn, 1) := by decide +kernel
theorem dX8_fill_0 : decode cX8_fill 0 = .ok (.aload_n 0, 1) := by decide +kernel
theorem dX8_fill_1 : decode cX8_fill 1 = .ok (.iload_n 1, 1) := by decide +kernel
theorem dX8_fill_2 : decode cX8_fill 2 = .ok (.invokevirtual 168, 3) := by decide +kernel
theorem dX8_fill_5 : decode cX8_fill 5 = .ok (.ifCond .ne 10, 3) := by decide +kernel
theorem dX8_fill_8 : decode cX8_fill 8 = .ok (.aload_n 0, 1) := by decide +kernel
theorem dX8_fill_9 : decode cX8_fill 9 = .ok (.bipush (-3), 2) := by decide +kernel
theorem dX8_fill_11 : decode cX8_fill 11 = .ok (.invokevirtual 148, 3) := by decide +kernel
theorem dX8_fill_14 : decode cX8_fill 14 = .ok (.ireturn, 1) := by decide +kernel
theorem dX8_fill_15 : decode cX8_fill 15 = .ok (.aload_n 0, 1) := by decide +kernel
theorem dX8_fill_16 : decode cX8_fill 16 = .ok (.getfield 53, 3) := by decide +kernel
theorem dX8_fill_19 : decode cX8_fill 19 = .ok (.iload_n 1, 1) := by decide +kernel
theorem dX8_fill_20 : decode cX8_fill 20 = .ok (.iaload, 1) := by decide +kernel
theorem dX8_fill_21 : decode cX8_fill 21 = .ok (.ifCond .gt 42, 3) := by decide +kernel
theorem dX8_fill_24 : decode cX8_fill 24 = .ok (.iload_n 2, 1) := by decide +kernel
theorem dX8_fill_25 : decode cX8_fill 25 = .ok (.iconst 1, 1) := by decide +kernel
theorem dX8_fill_26 : decode cX8_fill 26 = .ok (.if_icmp .lt 37, 3) := by decide +kernel
theorem dX8_fill_29 : decode cX8_fill 29 = .ok (.iload_n 2, 1) := by decide +kernel
theorem dX8_fill_30 : decode cX8_fill 30 = .ok (.bipush 100, 2) := by decide +kernel
theorem dX8_fill_32 : decode cX8_fill 32 = .ok (.if_icmp .gt 31, 3) := by decide +kernel
theorem dX8_fill_35 : decode cX8_fill 35 = .ok (.aload_n 0, 1) := by decide +kernel
theorem dX8_fill_36 : decode cX8_fill 36 = .ok (.getfield 41, 3) := by decide +kernel
theorem dX8_fill_39 : decode cX8_fill 39 = .ok (.iload_n 1, 1) := by decide +kernel
theorem dX8_fill_40 : decode cX8_fill 40 = .ok (.iaload, 1) := by decide +kernel
theorem dX8_fill_41 : decode cX8_fill 41 = .ok (.iload_n 2, 1) := by decide +kernel
theorem dX8_fill_42 : decode cX8_fill 42 = .ok (.iadd, 1) := by decide +kernel
theorem dX8_fill_43 : decode cX8_fill 43 = .ok (.bipush 100, 2) := by decide +kernel
theorem dX8_fill_45 : decode cX8_fill 45 = .ok (.if_icmp .gt 18, 3) := by decide +kernel
theorem dX8_fill_48 : decode cX8_fill 48 = .ok (.aload_n 0, 1) := by decide +kernel
theorem dX8_fill_49 : decode cX8_fill 49 = .ok (.getfield 17, 3) := by decide +kernel
theorem dX8_fill_52 : decode cX8_fill 52 = .ok (.aload_n 0, 1) := by decide +kernel
theorem dX8_fill_53 : decode cX8_fill 53 = .ok (.getfield 47, 3) := by decide +kernel
theorem dX8_fill_56 : decode cX8_fill 56 = .ok (.iload_n 1, 1) := by decide +kernel
theorem dX8_fill_57 : decode cX8_fill 57 = .ok (.iaload, 1) := by decide +kernel
theorem dX8_fill_58 : decode cX8_fill 58 = .ok (.iaload, 1) := by decide +kernel
theorem dX8_fill_59 : decode cX8_fill 59 = .ok (.iload_n 2, 1) := by decide +kernel
theorem dX8_fill_60 : decode cX8_fill 60 = .ok (.if_icmp .ge 10, 3) := by decide +kernel
theorem dX8_fill_63 : decode cX8_fill 63 = .ok (.aload_n 0, 1) := by decide +kernel
theorem dX8_fill_64 : decode cX8_fill 64 = .ok (.bipush (-7), 2) := by decide +kernel
theorem dX8_fill_66 : decode cX8_fill 66 = .ok (.invokevirtual 148, 3) := by decide +kernel
theorem dX8_fill_69 : decode cX8_fill 69 = .ok (.ireturn, 1) := by decide +kernel
theorem dX8_fill_70 : decode cX8_fill 70 = .ok (.aload_n 0, 1) := by decide +kernel
theorem dX8_fill_71 : decode cX8_fill 71 = .ok (.getfield 41, 3) := by decide +kernel
theorem dX8_fill_74 : decode cX8_fill 74 = .ok (.iload_n 1, 1) := by decide +kernel
theorem dX8_fill_75 : decode cX8_fill 75 = .ok (.dup2, 1) := by decide +kernel
theorem dX8_fill_76 : decode cX8_fill 76 = .ok (.iaload, 1) := by decide +kernel
theorem dX8_fill_77 : decode cX8_fill 77 = .ok (.iload_n 2, 1) := by decide +kernel
theorem dX8_fill_78 : decode cX8_fill 78 = .ok (.iadd, 1) := by decide +kernel
theorem dX8_fill_79 : decode cX8_fill 79 = .ok (.iastore, 1) := by decide +kernel
theorem dX8_fill_80 : decode cX8_fill 80 = .ok (.aload_n 0, 1) := by decide +kernel
theorem dX8_fill_81 : decode cX8_fill 81 = .ok (.getfield 17, 3) := by decide +kernel
theorem dX8_fill_84 : decode cX8_fill 84 = .ok (.aload_n 0, 1) := by decide +kernel
theorem dX8_fill_85 : decode cX8_fill 85 = .ok (.getfield 47, 3) := by decide +kernel
theorem dX8_fill_88 : decode cX8_fill 88 = .ok (.iload_n 1, 1) := by decide +kernel
theorem dX8_fill_89 : decode cX8_fill 89 = .ok (.iaload, 1) := by decide +kernel
theorem dX8_fill_90 : decode cX8_fill 90 = .ok (.dup2, 1) := by decide +kernel
theorem dX8_fill_91 : decode cX8_fill 91 = .ok (.iaload, 1) := by decide +kernel
theorem dX8_fill_92 : decode cX8_fill 92 = .ok (.iload_n 2, 1) := by decide +kernel
theorem dX8_fill_93 : decode cX8_fill 93 = .ok (.isub, 1) := by decide +kernel
theorem dX8_fill_94 : decode cX8_fill 94 = .ok (.iastore, 1) := by decide +kernel
theorem dX8_fill_95 : decode cX8_fill 95 = .ok (.aload_n 0, 1) := by decide +kernel
theorem dX8_fill_96 : decode cX8_fill 96 = .ok (.dup, 1) := by decide +kernel
theorem dX8_fill_97 : decode cX8_fill 97 = .ok (.getfield 171, 3) := by decide +kernel
theorem dX8_fill_100 : decode cX8_fill 100 = .ok (.iload_n 2, 1) := by decide +kernel
theorem dX8_fill_101 : decode cX8_fill 101 = .ok (.iadd, 1) := by decide +kernel
theorem dX8_fill_102 : decode cX8_fill 102 = .ok (.putfield 171, 3) := by decide +kernel
theorem dX8_fill_105 : decode cX8_fill 105 = .ok (.aload_n 0, 1) := by decide +kernel
theorem dX8_fill_106 : decode cX8_fill 106 = .ok (.getfield 41, 3) := by decide +kernel
theorem dX8_fill_109 : decode cX8_fill 109 = .ok (.iload_n 1, 1) := by decide +kernel
theorem dX8_fill_110 : decode cX8_fill 110 = .ok (.iaload, 1) := by decide +kernel
theorem dX8_fill_111 : decode cX8_fill 111 = .ok (.ireturn, 1) := by decide +kernel
theorem dX8_vent_0 : decode cX8_vent 0 = .ok (.aload_n 0, 1) := by decide +kernel
theorem dX8_vent_1 : decode cX8_vent 1 = .ok (.iload_n 1, 1) := by decide +kernel
theorem dX8_vent_2 : decode cX8_vent 2 = .ok (.invokevirtual 168, 3) := by decide +kernel
theorem dX8_vent_5 : decode cX8_vent 5 = .ok (.ifCond .ne 10, 3) := by decide +kernel
theorem dX8_vent_8 : decode cX8_vent 8 = .ok (.aload_n 0, 1) := by decide +kernel
theorem dX8_vent_9 : decode cX8_vent 9 = .ok (.bipush (-3), 2) := by decide +kernel
theorem dX8_vent_11 : decode cX8_vent 11 = .ok (.invokevirtual 148, 3) := by decide +kernel
theorem dX8_vent_14 : decode cX8_vent 14 = .ok (.ireturn, 1) := by decide +kernel
theorem dX8_vent_15 : decode cX8_vent 15 = .ok (.iload_n 2, 1) := by decide +kernel
theorem dX8_vent_16 : decode cX8_vent 16 = .ok (.ifCond .lt 8, 3) := by decide +kernel
theorem dX8_vent_19 : decode cX8_vent 19 = .ok (.iload_n 2, 1) := by decide +kernel
theorem dX8_vent_20 : decode cX8_vent 20 = .ok (.iconst 1, 1) := by decide +kernel
theorem dX8_vent_21 : decode cX8_vent 21 = .ok (.if_icmp .le 10, 3) := by decide +kernel
theorem dX8_vent_24 : decode cX8_vent 24 = .ok (.aload_n 0, 1) := by decide +kernel
theorem dX8_vent_25 : decode cX8_vent 25 = .ok (.bipush (-7), 2) := by decide +kernel
theorem dX8_vent_27 : decode cX8_vent 27 = .ok (.invokevirtual 148, 3) := by decide +kernel
theorem dX8_vent_30 : decode cX8_vent 30 = .ok (.ireturn, 1) := by decide +kernel
theorem dX8_vent_31 : decode cX8_vent 31 = .ok (.aload_n 0, 1) := by decide +kernel
theorem dX8_vent_32 : decode cX8_vent 32 = .ok (.getfield 44, 3) := by decide +kernel
theorem dX8_vent_35 : decode cX8_vent 35 = .ok (.iload_n 1, 1) := by decide +kernel
theorem dX8_vent_36 : decode cX8_vent 36 = .ok (.iaload, 1) := by decide +kernel
theorem dX8_vent_37 : decode cX8_vent 37 = .ok (.istore_n 3, 1) := by decide +kernel
theorem dX8_vent_38 : decode cX8_vent 38 = .ok (.aload_n 0, 1) := by decide +kernel
theorem dX8_vent_39 : decode cX8_vent 39 = .ok (.getfield 44, 3) := by decide +kernel
theorem dX8_vent_42 : decode cX8_vent 42 = .ok (.iload_n 1, 1) := by decide +kernel
theorem dX8_vent_43 : decode cX8_vent 43 = .ok (.iload_n 2, 1) := by decide +kernel
theorem dX8_vent_44 : decode cX8_vent 44 = .ok (.iastore, 1) := by decide +kernel
theorem dX8_vent_45 : decode cX8_vent 45 = .ok (.iload_n 3, 1) := by decide +kernel
theorem dX8_vent_46 : decode cX8_vent 46 = .ok (.ireturn, 1) := by decide +kernel
theorem dX8_legs_0 : decode cX8_legs 0 = .ok (.iconst 0, 1) := by decide +kernel
theorem dX8_legs_1 : decode cX8_legs 1 = .ok (.istore_n 3, 1) := by decide +kernel
theorem dX8_legs_2 : decode cX8_legs 2 = .ok (.iload_n 1, 1) := by decide +kernel
theorem dX8_legs_3 : decode cX8_legs 3 = .ok (.iload_n 2, 1) := by decide +kernel
theorem dX8_legs_4 : decode cX8_legs 4 = .ok (.if_icmp .ge 7, 3) := by decide +kernel
theorem dX8_legs_7 : decode cX8_legs 7 = .ok (.iload_n 1, 1) := by decide +kernel
theorem dX8_legs_8 : decode cX8_legs 8 = .ok (.goto 4, 3) := by decide +kernel
theorem dX8_legs_11 : decode cX8_legs 11 = .ok (.iload_n 2, 1) := by decide +kernel
theorem dX8_legs_12 : decode cX8_legs 12 = .ok (.istore 4, 2) := by decide +kernel
theorem dX8_legs_14 : decode cX8_legs 14 = .ok (.iload 4, 2) := by decide +kernel
theorem dX8_legs_16 : decode cX8_legs 16 = .ok (.iload_n 1, 1) := by decide +kernel
theorem dX8_legs_17 : decode cX8_legs 17 = .ok (.iload_n 2, 1) := by decide +kernel
theorem dX8_legs_18 : decode cX8_legs 18 = .ok (.if_icmp .ge 7, 3) := by decide +kernel
theorem dX8_legs_21 : decode cX8_legs 21 = .ok (.iload_n 2, 1) := by decide +kernel
theorem dX8_legs_22 : decode cX8_legs 22 = .ok (.goto 4, 3) := by decide +kernel
theorem dX8_legs_25 : decode cX8_legs 25 = .ok (.iload_n 1, 1) := by decide +kernel
theorem dX8_legs_26 : decode cX8_legs 26 = .ok (.if_icmp .ge 19, 3) := by decide +kernel
theorem dX8_legs_29 : decode cX8_legs 29 = .ok (.iload_n 3, 1) := by decide +kernel
theorem dX8_legs_30 : decode cX8_legs 30 = .ok (.aload_n 0, 1) := by decide +kernel
theorem dX8_legs_31 : decode cX8_legs 31 = .ok (.getfield 13, 3) := by decide +kernel
theorem dX8_legs_34 : decode cX8_legs 34 = .ok (.iload 4, 2) := by decide +kernel
theorem dX8_legs_36 : decode cX8_legs 36 = .ok (.iaload, 1) := by decide +kernel
theorem dX8_legs_37 : decode cX8_legs 37 = .ok (.iadd, 1) := by decide +kernel
theorem dX8_legs_38 : decode cX8_legs 38 = .ok (.istore_n 3, 1) := by decide +kernel
theorem dX8_legs_39 : decode cX8_legs 39 = .ok (.iinc 4 1, 3) := by decide +kernel
theorem dX8_legs_42 : decode cX8_legs 42 = .ok (.goto (-28), 3) := by decide +kernel
theorem dX8_legs_45 : decode cX8_legs 45 = .ok (.iload_n 3, 1) := by decide +kernel
theorem dX8_legs_46 : decode cX8_legs 46 = .ok (.ireturn, 1) := by decide +kernel
theorem dX8_sends_0 : decode cX8_sends 0 = .ok (.aload_n 0, 1) := by decide +kernel
theorem dX8_sends_1 : decode cX8_sends 1 = .ok (.getfield 56, 3) := by decide +kernel
theorem dX8_sends_4 : decode cX8_sends 4 = .ok (.iload_n 1, 1) := by decide +kernel
theorem dX8_sends_5 : decode cX8_sends 5 = .ok (.iload_n 2, 1) := by decide +kernel
theorem dX8_sends_6 : decode cX8_sends 6 = .ok (.iastore, 1) := by decide +kernel
theorem dX8_sends_7 : decode cX8_sends 7 = .ok (.aload_n 0, 1) := by decide +kernel
theorem dX8_sends_8 : decode cX8_sends 8 = .ok (.getfield 68, 3) := by decide +kernel
theorem dX8_sends_11 : decode cX8_sends 11 = .ok (.iload_n 1, 1) := by decide +kernel
theorem dX8_sends_12 : decode cX8_sends 12 = .ok (.iconst 0, 1) := by decide +kernel
theorem dX8_sends_13 : decode cX8_sends 13 = .ok (.bastore, 1) := by decide +kernel
theorem dX8_sends_14 : decode cX8_sends 14 = .ok (.aload_n 0, 1) := by decide +kernel
theorem dX8_sends_15 : decode cX8_sends 15 = .ok (.getfield 59, 3) := by decide +kernel
theorem dX8_sends_18 : decode cX8_sends 18 = .ok (.iload_n 1, 1) := by decide +kernel
theorem dX8_sends_19 : decode cX8_sends 19 = .ok (.aload_n 0, 1) := by decide +kernel
theorem dX8_sends_20 : decode cX8_sends 20 = .ok (.getfield 26, 3) := by decide +kernel
theorem dX8_sends_23 : decode cX8_sends 23 = .ok (.aload_n 0, 1) := by decide +kernel
theorem dX8_sends_24 : decode cX8_sends 24 = .ok (.getfield 47, 3) := by decide +kernel
theorem dX8_sends_27 : decode cX8_sends 27 = .ok (.iload_n 1, 1) := by decide +kernel
theorem dX8_sends_28 : decode cX8_sends 28 = .ok (.iaload, 1) := by decide +kernel
theorem dX8_sends_29 : decode cX8_sends 29 = .ok (.iaload, 1) := by decide +kernel
theorem dX8_sends_30 : decode cX8_sends 30 = .ok (.iastore, 1) := by decide +kernel
theorem dX8_sends_31 : decode cX8_sends 31 = .ok (.aload_n 0, 1) := by decide +kernel
theorem dX8_sends_32 : decode cX8_sends 32 = .ok (.getfield 72, 3) := by decide +kernel
theorem dX8_sends_35 : decode cX8_sends 35 = .ok (.iload_n 1, 1) := by decide +kernel
theorem dX8_sends_36 : decode cX8_sends 36 = .ok (.iconst 1, 1) := by decide +kernel
theorem dX8_sends_37 : decode cX8_sends 37 = .ok (.bastore, 1) := by decide +kernel
theorem dX8_sends_38 : decode cX8_sends 38 = .ok (.iconst 0, 1) := by decide +kernel
theorem dX8_sends_39 : decode cX8_sends 39 = .ok (.istore_n 3, 1) := by decide +kernel
theorem dX8_sends_40 : decode cX8_sends 40 = .ok (.iload_n 3, 1) := by decide +kernel
theorem dX8_sends_41 : decode cX8_sends 41 = .ok (.iconst 3, 1) := by decide +kernel
theorem dX8_sends_42 : decode cX8_sends 42 = .ok (.if_icmp .ge 20, 3) := by decide +kernel
theorem dX8_sends_45 : decode cX8_sends 45 = .ok (.aload_n 0, 1) := by decide +kernel
theorem dX8_sends_46 : decode cX8_sends 46 = .ok (.getfield 75, 3) := by decide +kernel
theorem dX8_sends_49 : decode cX8_sends 49 = .ok (.iconst 3, 1) := by decide +kernel
theorem dX8_sends_50 : decode cX8_sends 50 = .ok (.iload_n 1, 1) := by decide +kernel
theorem dX8_sends_51 : decode cX8_sends 51 = .ok (.imul, 1) := by decide +kernel
theorem dX8_sends_52 : decode cX8_sends 52 = .ok (.iload_n 3, 1) := by decide +kernel
theorem dX8_sends_53 : decode cX8_sends 53 = .ok (.iadd, 1) := by decide +kernel
theorem dX8_sends_54 : decode cX8_sends 54 = .ok (.iconst 0, 1) := by decide +kernel
theorem dX8_sends_55 : decode cX8_sends 55 = .ok (.iastore, 1) := by decide +kernel
theorem dX8_sends_56 : decode cX8_sends 56 = .ok (.iinc 3 1, 3) := by decide +kernel
theorem dX8_sends_59 : decode cX8_sends 59 = .ok (.goto (-19), 3) := by decide +kernel
theorem dX8_sends_62 : decode cX8_sends 62 = .ok (.return_, 1) := by decide +kernel
theorem dX8_send_0 : decode cX8_send 0 = .ok (.aload_n 0, 1) := by decide +kernel
theorem dX8_send_1 : decode cX8_send 1 = .ok (.iload_n 1, 1) := by decide +kernel
theorem dX8_send_2 : decode cX8_send 2 = .ok (.invokevirtual 168, 3) := by decide +kernel
theorem dX8_send_5 : decode cX8_send 5 = .ok (.ifCond .eq 11, 3) := by decide +kernel
theorem dX8_send_8 : decode cX8_send 8 = .ok (.aload_n 0, 1) := by decide +kernel
theorem dX8_send_9 : decode cX8_send 9 = .ok (.iload_n 2, 1) := by decide +kernel
theorem dX8_send_10 : decode cX8_send 10 = .ok (.invokevirtual 152, 3) := by decide +kernel
theorem dX8_send_13 : decode cX8_send 13 = .ok (.ifCond .ne 10, 3) := by decide +kernel
theorem dX8_send_16 : decode cX8_send 16 = .ok (.aload_n 0, 1) := by decide +kernel
theorem dX8_send_17 : decode cX8_send 17 = .ok (.bipush (-3), 2) := by decide +kernel
theorem dX8_send_19 : decode cX8_send 19 = .ok (.invokevirtual 148, 3) := by decide +kernel
theorem dX8_send_22 : decode cX8_send 22 = .ok (.ireturn, 1) := by decide +kernel
theorem dX8_send_23 : decode cX8_send 23 = .ok (.aload_n 0, 1) := by decide +kernel
theorem dX8_send_24 : decode cX8_send 24 = .ok (.getfield 56, 3) := by decide +kernel
theorem dX8_send_27 : decode cX8_send 27 = .ok (.iload_n 1, 1) := by decide +kernel
theorem dX8_send_28 : decode cX8_send 28 = .ok (.iaload, 1) := by decide +kernel
theorem dX8_send_29 : decode cX8_send 29 = .ok (.iconst (-1), 1) := by decide +kernel
theorem dX8_send_30 : decode cX8_send 30 = .ok (.if_icmp .ne 13, 3) := by decide +kernel
theorem dX8_send_33 : decode cX8_send 33 = .ok (.aload_n 0, 1) := by decide +kernel
theorem dX8_send_34 : decode cX8_send 34 = .ok (.getfield 47, 3) := by decide +kernel
theorem dX8_send_37 : decode cX8_send 37 = .ok (.iload_n 1, 1) := by decide +kernel
theorem dX8_send_38 : decode cX8_send 38 = .ok (.iaload, 1) := by decide +kernel
theorem dX8_send_39 : decode cX8_send 39 = .ok (.iload_n 2, 1) := by decide +kernel
theorem dX8_send_40 : decode cX8_send 40 = .ok (.if_icmp .ne 10, 3) := by decide +kernel
theorem dX8_send_43 : decode cX8_send 43 = .ok (.aload_n 0, 1) := by decide +kernel
theorem dX8_send_44 : decode cX8_send 44 = .ok (.bipush (-7), 2) := by decide +kernel
theorem dX8_send_46 : decode cX8_send 46 = .ok (.invokevirtual 148, 3) := by decide +kernel
theorem dX8_send_49 : decode cX8_send 49 = .ok (.ireturn, 1) := by decide +kernel
theorem dX8_send_50 : decode cX8_send 50 = .ok (.aload_n 0, 1) := by decide +kernel
theorem dX8_send_51 : decode cX8_send 51 = .ok (.iload_n 1, 1) := by decide +kernel
theorem dX8_send_52 : decode cX8_send 52 = .ok (.iload_n 2, 1) := by decide +kernel
theorem dX8_send_53 : decode cX8_send 53 = .ok (.invokevirtual 174, 3) := by decide +kernel
theorem dX8_send_56 : decode cX8_send 56 = .ok (.aload_n 0, 1) := by decide +kernel
theorem dX8_send_57 : decode cX8_send 57 = .ok (.aload_n 0, 1) := by decide +kernel
theorem dX8_send_58 : decode cX8_send 58 = .ok (.getfield 47, 3) := by decide +kernel
theorem dX8_send_61 : decode cX8_send 61 = .ok (.iload_n 1, 1) := by decide +kernel
theorem dX8_send_62 : decode cX8_send 62 = .ok (.iaload, 1) := by decide +kernel
theorem dX8_send_63 : decode cX8_send 63 = .ok (.iload_n 2, 1) := by decide +kernel
theorem dX8_send_64 : decode cX8_send 64 = .ok (.invokevirtual 178, 3) := by decide +kernel
theorem dX8_send_67 : decode cX8_send 67 = .ok (.ireturn, 1) := by decide +kernel
theorem dX8_mayTurn_0 : decode cX8_mayTurn 0 = .ok (.aload_n 0, 1) := by decide +kernel
theorem dX8_mayTurn_1 : decode cX8_mayTurn 1 = .ok (.getfield 56, 3) := by decide +kernel
theorem dX8_mayTurn_4 : decode cX8_mayTurn 4 = .ok (.iload_n 1, 1) := by decide +kernel
theorem dX8_mayTurn_5 : decode cX8_mayTurn 5 = .ok (.iaload, 1) := by decide +kernel
theorem dX8_mayTurn_6 : decode cX8_mayTurn 6 = .ok (.iconst (-1), 1) := by decide +kernel
theorem dX8_mayTurn_7 : decode cX8_mayTurn 7 = .ok (.if_icmp .ne 5, 3) := by decide +kernel
theorem dX8_mayTurn_10 : decode cX8_mayTurn 10 = .ok (.iconst 0, 1) := by decide +kernel
theorem dX8_mayTurn_11 : decode cX8_mayTurn 11 = .ok (.ireturn, 1) := by decide +kernel
theorem dX8_mayTurn_12 : decode cX8_mayTurn 12 = .ok (.aload_n 0, 1) := by decide +kernel
theorem dX8_mayTurn_13 : decode cX8_mayTurn 13 = .ok (.getfield 53, 3) := by decide +kernel
theorem dX8_mayTurn_16 : decode cX8_mayTurn 16 = .ok (.iload_n 1, 1) := by decide +kernel
theorem dX8_mayTurn_17 : decode cX8_mayTurn 17 = .ok (.iaload, 1) := by decide +kernel
theorem dX8_mayTurn_18 : decode cX8_mayTurn 18 = .ok (.ifCond .ne 19, 3) := by decide +kernel
theorem dX8_mayTurn_21 : decode cX8_mayTurn 21 = .ok (.iload_n 2, 1) := by decide +kernel
theorem dX8_mayTurn_22 : decode cX8_mayTurn 22 = .ok (.aload_n 0, 1) := by decide +kernel
theorem dX8_mayTurn_23 : decode cX8_mayTurn 23 = .ok (.getfield 47, 3) := by decide +kernel
theorem dX8_mayTurn_26 : decode cX8_mayTurn 26 = .ok (.iload_n 1, 1) := by decide +kernel
theorem dX8_mayTurn_27 : decode cX8_mayTurn 27 = .ok (.iaload, 1) := by decide +kernel
theorem dX8_mayTurn_28 : decode cX8_mayTurn 28 = .ok (.if_icmp .eq 7, 3) := by decide +kernel
theorem dX8_mayTurn_31 : decode cX8_mayTurn 31 = .ok (.iconst 1, 1) := by decide +kernel
theorem dX8_mayTurn_32 : decode cX8_mayTurn 32 = .ok (.goto 4, 3) := by decide +kernel
theorem dX8_mayTurn_35 : decode cX8_mayTurn 35 = .ok (.iconst 0, 1) := by decide +kernel
theorem dX8_mayTurn_36 : decode cX8_mayTurn 36 = .ok (.ireturn, 1) := by decide +kernel
theorem dX8_mayTurn_37 : decode cX8_mayTurn 37 = .ok (.aload_n 0, 1) := by decide +kernel
theorem dX8_mayTurn_38 : decode cX8_mayTurn 38 = .ok (.getfield 50, 3) := by decide +kernel
theorem dX8_mayTurn_41 : decode cX8_mayTurn 41 = .ok (.iload_n 1, 1) := by decide +kernel
theorem dX8_mayTurn_42 : decode cX8_mayTurn 42 = .ok (.iaload, 1) := by decide +kernel
theorem dX8_mayTurn_43 : decode cX8_mayTurn 43 = .ok (.aload_n 0, 1) := by decide +kernel
theorem dX8_mayTurn_44 : decode cX8_mayTurn 44 = .ok (.getfield 47, 3) := by decide +kernel
theorem dX8_mayTurn_47 : decode cX8_mayTurn 47 = .ok (.iload_n 1, 1) := by decide +kernel
theorem dX8_mayTurn_48 : decode cX8_mayTurn 48 = .ok (.iaload, 1) := by decide +kernel
theorem dX8_mayTurn_49 : decode cX8_mayTurn 49 = .ok (.if_icmp .le 21, 3) := by decide +kernel
theorem dX8_mayTurn_52 : decode cX8_mayTurn 52 = .ok (.iload_n 2, 1) := by decide +kernel
theorem dX8_mayTurn_53 : decode cX8_mayTurn 53 = .ok (.aload_n 0, 1) := by decide +kernel
theorem dX8_mayTurn_54 : decode cX8_mayTurn 54 = .ok (.getfield 50, 3) := by decide +kernel
theorem dX8_mayTurn_57 : decode cX8_mayTurn 57 = .ok (.iload_n 1, 1) := by decide +kernel
theorem dX8_mayTurn_58 : decode cX8_mayTurn 58 = .ok (.iaload, 1) := by decide +kernel
theorem dX8_mayTurn_59 : decode cX8_mayTurn 59 = .ok (.if_icmp .lt 7, 3) := by decide +kernel
theorem dX8_mayTurn_62 : decode cX8_mayTurn 62 = .ok (.iconst 1, 1) := by decide +kernel
theorem dX8_mayTurn_63 : decode cX8_mayTurn 63 = .ok (.goto 22, 3) := by decide +kernel
theorem dX8_mayTurn_66 : decode cX8_mayTurn 66 = .ok (.iconst 0, 1) := by decide +kernel
theorem dX8_mayTurn_67 : decode cX8_mayTurn 67 = .ok (.goto 18, 3) := by decide +kernel
theorem dX8_mayTurn_70 : decode cX8_mayTurn 70 = .ok (.iload_n 2, 1) := by decide +kernel
theorem dX8_mayTurn_71 : decode cX8_mayTurn 71 = .ok (.aload_n 0, 1) := by decide +kernel
theorem dX8_mayTurn_72 : decode cX8_mayTurn 72 = .ok (.getfield 50, 3) := by decide +kernel
theorem dX8_mayTurn_75 : decode cX8_mayTurn 75 = .ok (.iload_n 1, 1) := by decide +kernel
theorem dX8_mayTurn_76 : decode cX8_mayTurn 76 = .ok (.iaload, 1) := by decide +kernel
theorem dX8_mayTurn_77 : decode cX8_mayTurn 77 = .ok (.if_icmp .gt 7, 3) := by decide +kernel
theorem dX8_mayTurn_80 : decode cX8_mayTurn 80 = .ok (.iconst 1, 1) := by decide +kernel
theorem dX8_mayTurn_81 : decode cX8_mayTurn 81 = .ok (.goto 4, 3) := by decide +kernel
theorem dX8_mayTurn_84 : decode cX8_mayTurn 84 = .ok (.iconst 0, 1) := by decide +kernel
theorem dX8_mayTurn_85 : decode cX8_mayTurn 85 = .ok (.ireturn, 1) := by decide +kernel
theorem dX8_turn_0 : decode cX8_turn 0 = .ok (.aload_n 0, 1) := by decide +kernel
theorem dX8_turn_1 : decode cX8_turn 1 = .ok (.iload_n 1, 1) := by decide +kernel
theorem dX8_turn_2 : decode cX8_turn 2 = .ok (.invokevirtual 168, 3) := by decide +kernel
theorem dX8_turn_5 : decode cX8_turn 5 = .ok (.ifCond .eq 11, 3) := by decide +kernel
theorem dX8_turn_8 : decode cX8_turn 8 = .ok (.aload_n 0, 1) := by decide +kernel
theorem dX8_turn_9 : decode cX8_turn 9 = .ok (.iload_n 2, 1) := by decide +kernel
theorem dX8_turn_10 : decode cX8_turn 10 = .ok (.invokevirtual 152, 3) := by decide +kernel
theorem dX8_turn_13 : decode cX8_turn 13 = .ok (.ifCond .ne 10, 3) := by decide +kernel
theorem dX8_turn_16 : decode cX8_turn 16 = .ok (.aload_n 0, 1) := by decide +kernel
theorem dX8_turn_17 : decode cX8_turn 17 = .ok (.bipush (-3), 2) := by decide +kernel
theorem dX8_turn_19 : decode cX8_turn 19 = .ok (.invokevirtual 148, 3) := by decide +kernel
theorem dX8_turn_22 : decode cX8_turn 22 = .ok (.ireturn, 1) := by decide +kernel
theorem dX8_turn_23 : decode cX8_turn 23 = .ok (.aload_n 0, 1) := by decide +kernel
theorem dX8_turn_24 : decode cX8_turn 24 = .ok (.iload_n 1, 1) := by decide +kernel
theorem dX8_turn_25 : decode cX8_turn 25 = .ok (.iload_n 2, 1) := by decide +kernel
theorem dX8_turn_26 : decode cX8_turn 26 = .ok (.invokevirtual 181, 3) := by decide +kernel
theorem dX8_turn_29 : decode cX8_turn 29 = .ok (.ifCond .ne 10, 3) := by decide +kernel
theorem dX8_turn_32 : decode cX8_turn 32 = .ok (.aload_n 0, 1) := by decide +kernel
theorem dX8_turn_33 : decode cX8_turn 33 = .ok (.bipush (-7), 2) := by decide +kernel
theorem dX8_turn_35 : decode cX8_turn 35 = .ok (.invokevirtual 148, 3) := by decide +kernel
theorem dX8_turn_38 : decode cX8_turn 38 = .ok (.ireturn, 1) := by decide +kernel
theorem dX8_turn_39 : decode cX8_turn 39 = .ok (.aload_n 0, 1) := by decide +kernel
theorem dX8_turn_40 : decode cX8_turn 40 = .ok (.getfield 56, 3) := by decide +kernel
theorem dX8_turn_43 : decode cX8_turn 43 = .ok (.iload_n 1, 1) := by decide +kernel
theorem dX8_turn_44 : decode cX8_turn 44 = .ok (.iload_n 2, 1) := by decide +kernel
theorem dX8_turn_45 : decode cX8_turn 45 = .ok (.iastore, 1) := by decide +kernel
theorem dX8_turn_46 : decode cX8_turn 46 = .ok (.aload_n 0, 1) := by decide +kernel
theorem dX8_turn_47 : decode cX8_turn 47 = .ok (.getfield 53, 3) := by decide +kernel
theorem dX8_turn_50 : decode cX8_turn 50 = .ok (.iload_n 1, 1) := by decide +kernel
theorem dX8_turn_51 : decode cX8_turn 51 = .ok (.iaload, 1) := by decide +kernel
theorem dX8_turn_52 : decode cX8_turn 52 = .ok (.ifCond .ne 17, 3) := by decide +kernel
theorem dX8_turn_55 : decode cX8_turn 55 = .ok (.aload_n 0, 1) := by decide +kernel
theorem dX8_turn_56 : decode cX8_turn 56 = .ok (.aload_n 0, 1) := by decide +kernel
theorem dX8_turn_57 : decode cX8_turn 57 = .ok (.getfield 47, 3) := by decide +kernel
theorem dX8_turn_60 : decode cX8_turn 60 = .ok (.iload_n 1, 1) := by decide +kernel
theorem dX8_turn_61 : decode cX8_turn 61 = .ok (.iaload, 1) := by decide +kernel
theorem dX8_turn_62 : decode cX8_turn 62 = .ok (.iload_n 2, 1) := by decide +kernel
theorem dX8_turn_63 : decode cX8_turn 63 = .ok (.invokevirtual 178, 3) := by decide +kernel
theorem dX8_turn_66 : decode cX8_turn 66 = .ok (.goto 21, 3) := by decide +kernel
theorem dX8_turn_69 : decode cX8_turn 69 = .ok (.aload_n 0, 1) := by decide +kernel
theorem dX8_turn_70 : decode cX8_turn 70 = .ok (.getfield 53, 3) := by decide +kernel
theorem dX8_turn_73 : decode cX8_turn 73 = .ok (.iload_n 1, 1) := by decide +kernel
theorem dX8_turn_74 : decode cX8_turn 74 = .ok (.iaload, 1) := by decide +kernel
theorem dX8_turn_75 : decode cX8_turn 75 = .ok (.aload_n 0, 1) := by decide +kernel
theorem dX8_turn_76 : decode cX8_turn 76 = .ok (.aload_n 0, 1) := by decide +kernel
theorem dX8_turn_77 : decode cX8_turn 77 = .ok (.getfield 50, 3) := by decide +kernel
theorem dX8_turn_80 : decode cX8_turn 80 = .ok (.iload_n 1, 1) := by decide +kernel
theorem dX8_turn_81 : decode cX8_turn 81 = .ok (.iaload, 1) := by decide +kernel
theorem dX8_turn_82 : decode cX8_turn 82 = .ok (.iload_n 2, 1) := by decide +kernel
theorem dX8_turn_83 : decode cX8_turn 83 = .ok (.invokevirtual 178, 3) := by decide +kernel
theorem dX8_turn_86 : decode cX8_turn 86 = .ok (.iadd, 1) := by decide +kernel
theorem dX8_turn_87 : decode cX8_turn 87 = .ok (.ireturn, 1) := by decide +kernel
theorem dX8_late_0 : decode cX8_late 0 = .ok (.aload_n 0, 1) := by decide +kernel
theorem dX8_late_1 : decode cX8_late 1 = .ok (.iload_n 1, 1) := by decide +kernel
theorem dX8_late_2 : decode cX8_late 2 = .ok (.invokevirtual 152, 3) := by decide +kernel
theorem dX8_late_5 : decode cX8_late 5 = .ok (.ifCond .ne 10, 3) := by decide +kernel
theorem dX8_late_8 : decode cX8_late 8 = .ok (.aload_n 0, 1) := by decide +kernel
theorem dX8_late_9 : decode cX8_late 9 = .ok (.bipush (-3), 2) := by decide +kernel
theorem dX8_late_11 : decode cX8_late 11 = .ok (.invokevirtual 148, 3) := by decide +kernel
theorem dX8_late_14 : decode cX8_late 14 = .ok (.ireturn, 1) := by decide +kernel
theorem dX8_late_15 : decode cX8_late 15 = .ok (.iload_n 2, 1) := by decide +kernel
theorem dX8_late_16 : decode cX8_late 16 = .ok (.ifCond .lt 9, 3) := by decide +kernel
theorem dX8_late_19 : decode cX8_late 19 = .ok (.iload_n 2, 1) := by decide +kernel
theorem dX8_late_20 : decode cX8_late 20 = .ok (.bipush 48, 2) := by decide +kernel
theorem dX8_late_22 : decode cX8_late 22 = .ok (.if_icmp .le 10, 3) := by decide +kernel
theorem dX8_late_25 : decode cX8_late 25 = .ok (.aload_n 0, 1) := by decide +kernel
theorem dX8_late_26 : decode cX8_late 26 = .ok (.bipush (-7), 2) := by decide +kernel
theorem dX8_late_28 : decode cX8_late 28 = .ok (.invokevirtual 148, 3) := by decide +kernel
theorem dX8_late_31 : decode cX8_late 31 = .ok (.ireturn, 1) := by decide +kernel
theorem dX8_late_32 : decode cX8_late 32 = .ok (.aload_n 0, 1) := by decide +kernel
theorem dX8_late_33 : decode cX8_late 33 = .ok (.getfield 26, 3) := by decide +kernel
theorem dX8_late_36 : decode cX8_late 36 = .ok (.iload_n 1, 1) := by decide +kernel
theorem dX8_late_37 : decode cX8_late 37 = .ok (.iaload, 1) := by decide +kernel
theorem dX8_late_38 : decode cX8_late 38 = .ok (.istore_n 3, 1) := by decide +kernel
theorem dX8_late_39 : decode cX8_late 39 = .ok (.aload_n 0, 1) := by decide +kernel
theorem dX8_late_40 : decode cX8_late 40 = .ok (.getfield 26, 3) := by decide +kernel
theorem dX8_late_43 : decode cX8_late 43 = .ok (.iload_n 1, 1) := by decide +kernel
theorem dX8_late_44 : decode cX8_late 44 = .ok (.iload_n 2, 1) := by decide +kernel
theorem dX8_late_45 : decode cX8_late 45 = .ok (.iastore, 1) := by decide +kernel
theorem dX8_late_46 : decode cX8_late 46 = .ok (.iload_n 3, 1) := by decide +kernel
theorem dX8_late_47 : decode cX8_late 47 = .ok (.ireturn, 1) := by decide +kernel
theorem dX8_look_0 : decode cX8_look 0 = .ok (.aload_n 0, 1) := by decide +kernel
theorem dX8_look_1 : decode cX8_look 1 = .ok (.iload_n 1, 1) := by decide +kernel
theorem dX8_look_2 : decode cX8_look 2 = .ok (.invokevirtual 168, 3) := by decide +kernel
theorem dX8_look_5 : decode cX8_look 5 = .ok (.ifCond .ne 10, 3) := by decide +kernel
theorem dX8_look_8 : decode cX8_look 8 = .ok (.aload_n 0, 1) := by decide +kernel
theorem dX8_look_9 : decode cX8_look 9 = .ok (.bipush (-3), 2) := by decide +kernel
theorem dX8_look_11 : decode cX8_look 11 = .ok (.invokevirtual 148, 3) := by decide +kernel
theorem dX8_look_14 : decode cX8_look 14 = .ok (.ireturn, 1) := by decide +kernel
theorem dX8_look_15 : decode cX8_look 15 = .ok (.iload_n 2, 1) := by decide +kernel
theorem dX8_look_16 : decode cX8_look 16 = .ok (.tableswitch 112 0 7 #[48, 55, 62, 69, 76, 83, 90, 97], 48) := by decide +kernel
theorem dX8_look_64 : decode cX8_look 64 = .ok (.aload_n 0, 1) := by decide +kernel
theorem dX8_look_65 : decode cX8_look 65 = .ok (.getfield 47, 3) := by decide +kernel
theorem dX8_look_68 : decode cX8_look 68 = .ok (.iload_n 1, 1) := by decide +kernel
theorem dX8_look_69 : decode cX8_look 69 = .ok (.iaload, 1) := by decide +kernel
theorem dX8_look_70 : decode cX8_look 70 = .ok (.ireturn, 1) := by decide +kernel
theorem dX8_look_71 : decode cX8_look 71 = .ok (.aload_n 0, 1) := by decide +kernel
theorem dX8_look_72 : decode cX8_look 72 = .ok (.getfield 56, 3) := by decide +kernel
theorem dX8_look_75 : decode cX8_look 75 = .ok (.iload_n 1, 1) := by decide +kernel
theorem dX8_look_76 : decode cX8_look 76 = .ok (.iaload, 1) := by decide +kernel
theorem dX8_look_77 : decode cX8_look 77 = .ok (.ireturn, 1) := by decide +kernel
theorem dX8_look_78 : decode cX8_look 78 = .ok (.aload_n 0, 1) := by decide +kernel
theorem dX8_look_79 : decode cX8_look 79 = .ok (.getfield 53, 3) := by decide +kernel
theorem dX8_look_82 : decode cX8_look 82 = .ok (.iload_n 1, 1) := by decide +kernel
theorem dX8_look_83 : decode cX8_look 83 = .ok (.iaload, 1) := by decide +kernel
theorem dX8_look_84 : decode cX8_look 84 = .ok (.ireturn, 1) := by decide +kernel
theorem dX8_look_85 : decode cX8_look 85 = .ok (.aload_n 0, 1) := by decide +kernel
theorem dX8_look_86 : decode cX8_look 86 = .ok (.getfield 59, 3) := by decide +kernel
theorem dX8_look_89 : decode cX8_look 89 = .ok (.iload_n 1, 1) := by decide +kernel
theorem dX8_look_90 : decode cX8_look 90 = .ok (.iaload, 1) := by decide +kernel
theorem dX8_look_91 : decode cX8_look 91 = .ok (.ireturn, 1) := by decide +kernel
theorem dX8_look_92 : decode cX8_look 92 = .ok (.aload_n 0, 1) := by decide +kernel
theorem dX8_look_93 : decode cX8_look 93 = .ok (.getfield 41, 3) := by decide +kernel
theorem dX8_look_96 : decode cX8_look 96 = .ok (.iload_n 1, 1) := by decide +kernel
theorem dX8_look_97 : decode cX8_look 97 = .ok (.iaload, 1) := by decide +kernel
theorem dX8_look_98 : decode cX8_look 98 = .ok (.ireturn, 1) := by decide +kernel
theorem dX8_look_99 : decode cX8_look 99 = .ok (.aload_n 0, 1) := by decide +kernel
theorem dX8_look_100 : decode cX8_look 100 = .ok (.getfield 44, 3) := by decide +kernel
theorem dX8_look_103 : decode cX8_look 103 = .ok (.iload_n 1, 1) := by decide +kernel
theorem dX8_look_104 : decode cX8_look 104 = .ok (.iaload, 1) := by decide +kernel
theorem dX8_look_105 : decode cX8_look 105 = .ok (.ireturn, 1) := by decide +kernel
theorem dX8_look_106 : decode cX8_look 106 = .ok (.aload_n 0, 1) := by decide +kernel
theorem dX8_look_107 : decode cX8_look 107 = .ok (.getfield 62, 3) := by decide +kernel
theorem dX8_look_110 : decode cX8_look 110 = .ok (.iload_n 1, 1) := by decide +kernel
theorem dX8_look_111 : decode cX8_look 111 = .ok (.iaload, 1) := by decide +kernel
theorem dX8_look_112 : decode cX8_look 112 = .ok (.ireturn, 1) := by decide +kernel
theorem dX8_look_113 : decode cX8_look 113 = .ok (.aload_n 0, 1) := by decide +kernel
theorem dX8_look_114 : decode cX8_look 114 = .ok (.getfield 68, 3) := by decide +kernel
theorem dX8_look_117 : decode cX8_look 117 = .ok (.iload_n 1, 1) := by decide +kernel
theorem dX8_look_118 : decode cX8_look 118 = .ok (.baload, 1) := by decide +kernel
theorem dX8_look_119 : decode cX8_look 119 = .ok (.ifCond .eq 7, 3) := by decide +kernel
theorem dX8_look_122 : decode cX8_look 122 = .ok (.iconst 1, 1) := by decide +kernel
theorem dX8_look_123 : decode cX8_look 123 = .ok (.goto 4, 3) := by decide +kernel
theorem dX8_look_126 : decode cX8_look 126 = .ok (.iconst 0, 1) := by decide +kernel
theorem dX8_look_127 : decode cX8_look 127 = .ok (.ireturn, 1) := by decide +kernel
theorem dX8_look_128 : decode cX8_look 128 = .ok (.aload_n 0, 1) := by decide +kernel
theorem dX8_look_129 : decode cX8_look 129 = .ok (.bipush (-7), 2) := by decide +kernel
theorem dX8_look_131 : decode cX8_look 131 = .ok (.invokevirtual 148, 3) := by decide +kernel
theorem dX8_look_134 : decode cX8_look 134 = .ok (.ireturn, 1) := by decide +kernel
theorem dX8_feed_0 : decode cX8_feed 0 = .ok (.iload_n 2, 1) := by decide +kernel
theorem dX8_feed_1 : decode cX8_feed 1 = .ok (.ifCond .ge 10, 3) := by decide +kernel
theorem dX8_feed_4 : decode cX8_feed 4 = .ok (.aload_n 0, 1) := by decide +kernel
theorem dX8_feed_5 : decode cX8_feed 5 = .ok (.bipush (-4), 2) := by decide +kernel
theorem dX8_feed_7 : decode cX8_feed 7 = .ok (.invokevirtual 148, 3) := by decide +kernel
theorem dX8_feed_10 : decode cX8_feed 10 = .ok (.ireturn, 1) := by decide +kernel
theorem dX8_feed_11 : decode cX8_feed 11 = .ok (.iload_n 2, 1) := by decide +kernel
theorem dX8_feed_12 : decode cX8_feed 12 = .ok (.iconst 4, 1) := by decide +kernel
theorem dX8_feed_13 : decode cX8_feed 13 = .ok (.if_icmp .le 10, 3) := by decide +kernel
theorem dX8_feed_16 : decode cX8_feed 16 = .ok (.aload_n 0, 1) := by decide +kernel
theorem dX8_feed_17 : decode cX8_feed 17 = .ok (.bipush (-7), 2) := by decide +kernel
theorem dX8_feed_19 : decode cX8_feed 19 = .ok (.invokevirtual 148, 3) := by decide +kernel
theorem dX8_feed_22 : decode cX8_feed 22 = .ok (.ireturn, 1) := by decide +kernel
theorem dX8_feed_23 : decode cX8_feed 23 = .ok (.aload_n 0, 1) := by decide +kernel
theorem dX8_feed_24 : decode cX8_feed 24 = .ok (.getfield 185, 3) := by decide +kernel
theorem dX8_feed_27 : decode cX8_feed 27 = .ok (.iload_n 2, 1) := by decide +kernel
theorem dX8_feed_28 : decode cX8_feed 28 = .ok (.iadd, 1) := by decide +kernel
theorem dX8_feed_29 : decode cX8_feed 29 = .ok (.bipush 80, 2) := by decide +kernel
theorem dX8_feed_31 : decode cX8_feed 31 = .ok (.if_icmp .le 10, 3) := by decide +kernel
theorem dX8_feed_34 : decode cX8_feed 34 = .ok (.aload_n 0, 1) := by decide +kernel
theorem dX8_feed_35 : decode cX8_feed 35 = .ok (.bipush (-8), 2) := by decide +kernel
theorem dX8_feed_37 : decode cX8_feed 37 = .ok (.invokevirtual 148, 3) := by decide +kernel
theorem dX8_feed_40 : decode cX8_feed 40 = .ok (.ireturn, 1) := by decide +kernel
theorem dX8_feed_41 : decode cX8_feed 41 = .ok (.iload_n 2, 1) := by decide +kernel
theorem dX8_feed_42 : decode cX8_feed 42 = .ok (.iconst 1, 1) := by decide +kernel
theorem dX8_feed_43 : decode cX8_feed 43 = .ok (.isub, 1) := by decide +kernel
theorem dX8_feed_44 : decode cX8_feed 44 = .ok (.istore_n 3, 1) := by decide +kernel
theorem dX8_feed_45 : decode cX8_feed 45 = .ok (.iload_n 3, 1) := by decide +kernel
theorem dX8_feed_46 : decode cX8_feed 46 = .ok (.ifCond .lt 35, 3) := by decide +kernel
theorem dX8_feed_49 : decode cX8_feed 49 = .ok (.aload_n 0, 1) := by decide +kernel
theorem dX8_feed_50 : decode cX8_feed 50 = .ok (.getfield 126, 3) := by decide +kernel
theorem dX8_feed_53 : decode cX8_feed 53 = .ok (.aload_n 0, 1) := by decide +kernel
theorem dX8_feed_54 : decode cX8_feed 54 = .ok (.dup, 1) := by decide +kernel
theorem dX8_feed_55 : decode cX8_feed 55 = .ok (.getfield 185, 3) := by decide +kernel
theorem dX8_feed_58 : decode cX8_feed 58 = .ok (.dup_x1, 1) := by decide +kernel
theorem dX8_feed_59 : decode cX8_feed 59 = .ok (.iconst 1, 1) := by decide +kernel
theorem dX8_feed_60 : decode cX8_feed 60 = .ok (.iadd, 1) := by decide +kernel
theorem dX8_feed_61 : decode cX8_feed 61 = .ok (.putfield 185, 3) := by decide +kernel
theorem dX8_feed_64 : decode cX8_feed 64 = .ok (.iload_n 1, 1) := by decide +kernel
theorem dX8_feed_65 : decode cX8_feed 65 = .ok (.bipush 8, 2) := by decide +kernel
theorem dX8_feed_67 : decode cX8_feed 67 = .ok (.iload_n 3, 1) := by decide +kernel
theorem dX8_feed_68 : decode cX8_feed 68 = .ok (.imul, 1) := by decide +kernel
theorem dX8_feed_69 : decode cX8_feed 69 = .ok (.ishr, 1) := by decide +kernel
theorem dX8_feed_70 : decode cX8_feed 70 = .ok (.sipush 255, 3) := by decide +kernel
theorem dX8_feed_73 : decode cX8_feed 73 = .ok (.iand, 1) := by decide +kernel
theorem dX8_feed_74 : decode cX8_feed 74 = .ok (.iastore, 1) := by decide +kernel
theorem dX8_feed_75 : decode cX8_feed 75 = .ok (.iinc 3 (-1), 3) := by decide +kernel
theorem dX8_feed_78 : decode cX8_feed 78 = .ok (.goto (-33), 3) := by decide +kernel
theorem dX8_feed_81 : decode cX8_feed 81 = .ok (.aload_n 0, 1) := by decide +kernel
theorem dX8_feed_82 : decode cX8_feed 82 = .ok (.getfield 185, 3) := by decide +kernel
theorem dX8_feed_85 : decode cX8_feed 85 = .ok (.ireturn, 1) := by decide +kernel
theorem dX8_wipe_0 : decode cX8_wipe 0 = .ok (.aload_n 0, 1) := by decide +kernel
theorem dX8_wipe_1 : decode cX8_wipe 1 = .ok (.getfield 185, 3) := by decide +kernel
theorem dX8_wipe_4 : decode cX8_wipe 4 = .ok (.istore_n 1, 1) := by decide +kernel
theorem dX8_wipe_5 : decode cX8_wipe 5 = .ok (.aload_n 0, 1) := by decide +kernel
theorem dX8_wipe_6 : decode cX8_wipe 6 = .ok (.iconst 0, 1) := by decide +kernel
theorem dX8_wipe_7 : decode cX8_wipe 7 = .ok (.putfield 185, 3) := by decide +kernel
theorem dX8_wipe_10 : decode cX8_wipe 10 = .ok (.iload_n 1, 1) := by decide +kernel
theorem dX8_wipe_11 : decode cX8_wipe 11 = .ok (.ireturn, 1) := by decide +kernel
theorem dX8_byteAt_0 : decode cX8_byteAt 0 = .ok (.iload_n 1, 1) := by decide +kernel
theorem dX8_byteAt_1 : decode cX8_byteAt 1 = .ok (.aload_n 0, 1) := by decide +kernel
theorem dX8_byteAt_2 : decode cX8_byteAt 2 = .ok (.getfield 185, 3) := by decide +kernel
theorem dX8_byteAt_5 : decode cX8_byteAt 5 = .ok (.if_icmp .ge 12, 3) := by decide +kernel
theorem dX8_byteAt_8 : decode cX8_byteAt 8 = .ok (.aload_n 0, 1) := by decide +kernel
theorem dX8_byteAt_9 : decode cX8_byteAt 9 = .ok (.getfield 126, 3) := by decide +kernel
theorem dX8_byteAt_12 : decode cX8_byteAt 12 = .ok (.iload_n 1, 1) := by decide +kernel
theorem dX8_byteAt_13 : decode cX8_byteAt 13 = .ok (.iaload, 1) := by decide +kernel
theorem dX8_byteAt_14 : decode cX8_byteAt 14 = .ok (.goto 4, 3) := by decide +kernel
theorem dX8_byteAt_17 : decode cX8_byteAt 17 = .ok (.iconst (-1), 1) := by decide +kernel
theorem dX8_byteAt_18 : decode cX8_byteAt 18 = .ok (.ireturn, 1) := by decide +kernel
theorem dX8_expect_0 : decode cX8_expect 0 = .ok (.iconst 0, 1) := by decide +kernel
theorem dX8_expect_1 : decode cX8_expect 1 = .ok (.istore_n 2, 1) := by decide +kernel
theorem dX8_expect_2 : decode cX8_expect 2 = .ok (.iload_n 2, 1) := by decide +kernel
theorem dX8_expect_3 : decode cX8_expect 3 = .ok (.aload_n 1, 1) := by decide +kernel
theorem dX8_expect_4 : decode cX8_expect 4 = .ok (.invokevirtual 188, 3) := by decide +kernel
theorem dX8_expect_7 : decode cX8_expect 7 = .ok (.if_icmp .ge 54, 3) := by decide +kernel
theorem dX8_expect_10 : decode cX8_expect 10 = .ok (.aload_n 0, 1) := by decide +kernel
theorem dX8_expect_11 : decode cX8_expect 11 = .ok (.getfield 194, 3) := by decide +kernel
theorem dX8_expect_14 : decode cX8_expect 14 = .ok (.iconst (-1), 1) := by decide +kernel
theorem dX8_expect_15 : decode cX8_expect 15 = .ok (.if_icmp .ne 46, 3) := by decide +kernel
theorem dX8_expect_18 : decode cX8_expect 18 = .ok (.aload_n 0, 1) := by decide +kernel
theorem dX8_expect_19 : decode cX8_expect 19 = .ok (.aload_n 0, 1) := by decide +kernel
theorem dX8_expect_20 : decode cX8_expect 20 = .ok (.getfield 197, 3) := by decide +kernel
theorem dX8_expect_23 : decode cX8_expect 23 = .ok (.invokevirtual 200, 3) := by decide +kernel
theorem dX8_expect_26 : decode cX8_expect 26 = .ok (.aload_n 1, 1) := by decide +kernel
theorem dX8_expect_27 : decode cX8_expect 27 = .ok (.iload_n 2, 1) := by decide +kernel
theorem dX8_expect_28 : decode cX8_expect 28 = .ok (.invokevirtual 203, 3) := by decide +kernel
theorem dX8_expect_31 : decode cX8_expect 31 = .ok (.if_icmp .ne 16, 3) := by decide +kernel
theorem dX8_expect_34 : decode cX8_expect 34 = .ok (.aload_n 0, 1) := by decide +kernel
theorem dX8_expect_35 : decode cX8_expect 35 = .ok (.dup, 1) := by decide +kernel
theorem dX8_expect_36 : decode cX8_expect 36 = .ok (.getfield 197, 3) := by decide +kernel
theorem dX8_expect_39 : decode cX8_expect 39 = .ok (.iconst 1, 1) := by decide +kernel
theorem dX8_expect_40 : decode cX8_expect 40 = .ok (.iadd, 1) := by decide +kernel
theorem dX8_expect_41 : decode cX8_expect 41 = .ok (.putfield 197, 3) := by decide +kernel
theorem dX8_expect_44 : decode cX8_expect 44 = .ok (.goto 11, 3) := by decide +kernel
theorem dX8_expect_47 : decode cX8_expect 47 = .ok (.aload_n 0, 1) := by decide +kernel
theorem dX8_expect_48 : decode cX8_expect 48 = .ok (.aload_n 0, 1) := by decide +kernel
theorem dX8_expect_49 : decode cX8_expect 49 = .ok (.getfield 197, 3) := by decide +kernel
theorem dX8_expect_52 : decode cX8_expect 52 = .ok (.putfield 194, 3) := by decide +kernel
theorem dX8_expect_55 : decode cX8_expect 55 = .ok (.iinc 2 1, 3) := by decide +kernel
theorem dX8_expect_58 : decode cX8_expect 58 = .ok (.goto (-56), 3) := by decide +kernel
theorem dX8_expect_61 : decode cX8_expect 61 = .ok (.return_, 1) := by decide +kernel
theorem dX8_number_0 : decode cX8_number 0 = .ok (.iconst 0, 1) := by decide +kernel
theorem dX8_number_1 : decode cX8_number 1 = .ok (.istore_n 1, 1) := by decide +kernel
theorem dX8_number_2 : decode cX8_number 2 = .ok (.iconst 0, 1) := by decide +kernel
theorem dX8_number_3 : decode cX8_number 3 = .ok (.istore_n 2, 1) := by decide +kernel
theorem dX8_number_4 : decode cX8_number 4 = .ok (.aload_n 0, 1) := by decide +kernel
theorem dX8_number_5 : decode cX8_number 5 = .ok (.getfield 194, 3) := by decide +kernel
theorem dX8_number_8 : decode cX8_number 8 = .ok (.iconst (-1), 1) := by decide +kernel
theorem dX8_number_9 : decode cX8_number 9 = .ok (.if_icmp .ne 67, 3) := by decide +kernel
theorem dX8_number_12 : decode cX8_number 12 = .ok (.iload_n 2, 1) := by decide +kernel
theorem dX8_number_13 : decode cX8_number 13 = .ok (.iconst 3, 1) := by decide +kernel
theorem dX8_number_14 : decode cX8_number 14 = .ok (.if_icmp .ge 62, 3) := by decide +kernel
theorem dX8_number_17 : decode cX8_number 17 = .ok (.aload_n 0, 1) := by decide +kernel
theorem dX8_number_18 : decode cX8_number 18 = .ok (.aload_n 0, 1) := by decide +kernel
theorem dX8_number_19 : decode cX8_number 19 = .ok (.getfield 197, 3) := by decide +kernel
theorem dX8_number_22 : decode cX8_number 22 = .ok (.invokevirtual 200, 3) := by decide +kernel
theorem dX8_number_25 : decode cX8_number 25 = .ok (.bipush 48, 2) := by decide +kernel
theorem dX8_number_27 : decode cX8_number 27 = .ok (.if_icmp .lt 49, 3) := by decide +kernel
theorem dX8_number_30 : decode cX8_number 30 = .ok (.aload_n 0, 1) := by decide +kernel
theorem dX8_number_31 : decode cX8_number 31 = .ok (.aload_n 0, 1) := by decide +kernel
theorem dX8_number_32 : decode cX8_number 32 = .ok (.getfield 197, 3) := by decide +kernel
theorem dX8_number_35 : decode cX8_number 35 = .ok (.invokevirtual 200, 3) := by decide +kernel
theorem dX8_number_38 : decode cX8_number 38 = .ok (.bipush 57, 2) := by decide +kernel
theorem dX8_number_40 : decode cX8_number 40 = .ok (.if_icmp .gt 36, 3) := by decide +kernel
theorem dX8_number_43 : decode cX8_number 43 = .ok (.bipush 10, 2) := by decide +kernel
theorem dX8_number_45 : decode cX8_number 45 = .ok (.iload_n 1, 1) := by decide +kernel
theorem dX8_number_46 : decode cX8_number 46 = .ok (.imul, 1) := by decide +kernel
theorem dX8_number_47 : decode cX8_number 47 = .ok (.aload_n 0, 1) := by decide +kernel
theorem dX8_number_48 : decode cX8_number 48 = .ok (.aload_n 0, 1) := by decide +kernel
theorem dX8_number_49 : decode cX8_number 49 = .ok (.getfield 197, 3) := by decide +kernel
theorem dX8_number_52 : decode cX8_number 52 = .ok (.invokevirtual 200, 3) := by decide +kernel
theorem dX8_number_55 : decode cX8_number 55 = .ok (.iadd, 1) := by decide +kernel
theorem dX8_number_56 : decode cX8_number 56 = .ok (.bipush 48, 2) := by decide +kernel
theorem dX8_number_58 : decode cX8_number 58 = .ok (.isub, 1) := by decide +kernel
theorem dX8_number_59 : decode cX8_number 59 = .ok (.istore_n 1, 1) := by decide +kernel
theorem dX8_number_60 : decode cX8_number 60 = .ok (.aload_n 0, 1) := by decide +kernel
theorem dX8_number_61 : decode cX8_number 61 = .ok (.dup, 1) := by decide +kernel
theorem dX8_number_62 : decode cX8_number 62 = .ok (.getfield 197, 3) := by decide +kernel
theorem dX8_number_65 : decode cX8_number 65 = .ok (.iconst 1, 1) := by decide +kernel
theorem dX8_number_66 : decode cX8_number 66 = .ok (.iadd, 1) := by decide +kernel
theorem dX8_number_67 : decode cX8_number 67 = .ok (.putfield 197, 3) := by decide +kernel
theorem dX8_number_70 : decode cX8_number 70 = .ok (.iinc 2 1, 3) := by decide +kernel
theorem dX8_number_73 : decode cX8_number 73 = .ok (.goto (-69), 3) := by decide +kernel
theorem dX8_number_76 : decode cX8_number 76 = .ok (.iload_n 2, 1) := by decide +kernel
theorem dX8_number_77 : decode cX8_number 77 = .ok (.ifCond .ne 19, 3) := by decide +kernel
theorem dX8_number_80 : decode cX8_number 80 = .ok (.aload_n 0, 1) := by decide +kernel
theorem dX8_number_81 : decode cX8_number 81 = .ok (.getfield 194, 3) := by decide +kernel
theorem dX8_number_84 : decode cX8_number 84 = .ok (.iconst (-1), 1) := by decide +kernel
theorem dX8_number_85 : decode cX8_number 85 = .ok (.if_icmp .ne 11, 3) := by decide +kernel
theorem dX8_number_88 : decode cX8_number 88 = .ok (.aload_n 0, 1) := by decide +kernel
theorem dX8_number_89 : decode cX8_number 89 = .ok (.aload_n 0, 1) := by decide +kernel
theorem dX8_number_90 : decode cX8_number 90 = .ok (.getfield 197, 3) := by decide +kernel
theorem dX8_number_93 : decode cX8_number 93 = .ok (.putfield 194, 3) := by decide +kernel
theorem dX8_number_96 : decode cX8_number 96 = .ok (.iload_n 1, 1) := by decide +kernel
theorem dX8_number_97 : decode cX8_number 97 = .ok (.ireturn, 1) := by decide +kernel
theorem dX8_fieldNow_0 : decode cX8_fieldNow 0 = .ok (.aload_n 0, 1) := by decide +kernel
theorem dX8_fieldNow_1 : decode cX8_fieldNow 1 = .ok (.aload_n 0, 1) := by decide +kernel
theorem dX8_fieldNow_2 : decode cX8_fieldNow 2 = .ok (.getfield 197, 3) := by decide +kernel
theorem dX8_fieldNow_5 : decode cX8_fieldNow 5 = .ok (.invokevirtual 200, 3) := by decide +kernel
theorem dX8_fieldNow_8 : decode cX8_fieldNow 8 = .ok (.istore_n 1, 1) := by decide +kernel
theorem dX8_fieldNow_9 : decode cX8_fieldNow 9 = .ok (.iload_n 1, 1) := by decide +kernel
theorem dX8_fieldNow_10 : decode cX8_fieldNow 10 = .ok (.bipush 105, 2) := by decide +kernel
theorem dX8_fieldNow_12 : decode cX8_fieldNow 12 = .ok (.if_icmp .ne 7, 3) := by decide +kernel
theorem dX8_fieldNow_15 : decode cX8_fieldNow 15 = .ok (.iconst 0, 1) := by decide +kernel
theorem dX8_fieldNow_16 : decode cX8_fieldNow 16 = .ok (.goto 44, 3) := by decide +kernel
theorem dX8_fieldNow_19 : decode cX8_fieldNow 19 = .ok (.iload_n 1, 1) := by decide +kernel
theorem dX8_fieldNow_20 : decode cX8_fieldNow 20 = .ok (.bipush 104, 2) := by decide +kernel
theorem dX8_fieldNow_22 : decode cX8_fieldNow 22 = .ok (.if_icmp .ne 7, 3) := by decide +kernel
theorem dX8_fieldNow_25 : decode cX8_fieldNow 25 = .ok (.iconst 1, 1) := by decide +kernel
theorem dX8_fieldNow_26 : decode cX8_fieldNow 26 = .ok (.goto 34, 3) := by decide +kernel
theorem dX8_fieldNow_29 : decode cX8_fieldNow 29 = .ok (.iload_n 1, 1) := by decide +kernel
theorem dX8_fieldNow_30 : decode cX8_fieldNow 30 = .ok (.bipush 111, 2) := by decide +kernel
theorem dX8_fieldNow_32 : decode cX8_fieldNow 32 = .ok (.if_icmp .ne 7, 3) := by decide +kernel
theorem dX8_fieldNow_35 : decode cX8_fieldNow 35 = .ok (.iconst 2, 1) := by decide +kernel
theorem dX8_fieldNow_36 : decode cX8_fieldNow 36 = .ok (.goto 24, 3) := by decide +kernel
theorem dX8_fieldNow_39 : decode cX8_fieldNow 39 = .ok (.iload_n 1, 1) := by decide +kernel
theorem dX8_fieldNow_40 : decode cX8_fieldNow 40 = .ok (.bipush 115, 2) := by decide +kernel
theorem dX8_fieldNow_42 : decode cX8_fieldNow 42 = .ok (.if_icmp .ne 7, 3) := by decide +kernel
theorem dX8_fieldNow_45 : decode cX8_fieldNow 45 = .ok (.iconst 3, 1) := by decide +kernel
theorem dX8_fieldNow_46 : decode cX8_fieldNow 46 = .ok (.goto 14, 3) := by decide +kernel
theorem dX8_fieldNow_49 : decode cX8_fieldNow 49 = .ok (.iload_n 1, 1) := by decide +kernel
theorem dX8_fieldNow_50 : decode cX8_fieldNow 50 = .ok (.bipush 99, 2) := by decide +kernel
theorem dX8_fieldNow_52 : decode cX8_fieldNow 52 = .ok (.if_icmp .ne 7, 3) := by decide +kernel
theorem dX8_fieldNow_55 : decode cX8_fieldNow 55 = .ok (.iconst 4, 1) := by decide +kernel
theorem dX8_fieldNow_56 : decode cX8_fieldNow 56 = .ok (.goto 4, 3) := by decide +kernel
theorem dX8_fieldNow_59 : decode cX8_fieldNow 59 = .ok (.iconst (-1), 1) := by decide +kernel
theorem dX8_fieldNow_60 : decode cX8_fieldNow 60 = .ok (.istore_n 2, 1) := by decide +kernel
theorem dX8_fieldNow_61 : decode cX8_fieldNow 61 = .ok (.aload_n 0, 1) := by decide +kernel
theorem dX8_fieldNow_62 : decode cX8_fieldNow 62 = .ok (.iload_n 2, 1) := by decide +kernel
theorem dX8_fieldNow_63 : decode cX8_fieldNow 63 = .ok (.iconst 1, 1) := by decide +kernel
theorem dX8_fieldNow_64 : decode cX8_fieldNow 64 = .ok (.if_icmp .ne 8, 3) := by decide +kernel
theorem dX8_fieldNow_67 : decode cX8_fieldNow 67 = .ok (.ldc 207, 2) := by decide +kernel
theorem dX8_fieldNow_69 : decode cX8_fieldNow 69 = .ok (.goto 35, 3) := by decide +kernel
theorem dX8_fieldNow_72 : decode cX8_fieldNow 72 = .ok (.iload_n 2, 1) := by decide +kernel
theorem dX8_fieldNow_73 : decode cX8_fieldNow 73 = .ok (.iconst 2, 1) := by decide +kernel
theorem dX8_fieldNow_74 : decode cX8_fieldNow 74 = .ok (.if_icmp .ne 8, 3) := by decide +kernel
theorem dX8_fieldNow_77 : decode cX8_fieldNow 77 = .ok (.ldc 208, 2) := by decide +kernel
theorem dX8_fieldNow_79 : decode cX8_fieldNow 79 = .ok (.goto 25, 3) := by decide +kernel
theorem dX8_fieldNow_82 : decode cX8_fieldNow 82 = .ok (.iload_n 2, 1) := by decide +kernel
theorem dX8_fieldNow_83 : decode cX8_fieldNow 83 = .ok (.iconst 3, 1) := by decide +kernel
theorem dX8_fieldNow_84 : decode cX8_fieldNow 84 = .ok (.if_icmp .ne 8, 3) := by decide +kernel
theorem dX8_fieldNow_87 : decode cX8_fieldNow 87 = .ok (.ldc 210, 2) := by decide +kernel
theorem dX8_fieldNow_89 : decode cX8_fieldNow 89 = .ok (.goto 15, 3) := by decide +kernel
theorem dX8_fieldNow_92 : decode cX8_fieldNow 92 = .ok (.iload_n 2, 1) := by decide +kernel
theorem dX8_fieldNow_93 : decode cX8_fieldNow 93 = .ok (.iconst 4, 1) := by decide +kernel
theorem dX8_fieldNow_94 : decode cX8_fieldNow 94 = .ok (.if_icmp .ne 8, 3) := by decide +kernel
theorem dX8_fieldNow_97 : decode cX8_fieldNow 97 = .ok (.ldc 212, 2) := by decide +kernel
theorem dX8_fieldNow_99 : decode cX8_fieldNow 99 = .ok (.goto 5, 3) := by decide +kernel
theorem dX8_fieldNow_102 : decode cX8_fieldNow 102 = .ok (.ldc 214, 2) := by decide +kernel
theorem dX8_fieldNow_104 : decode cX8_fieldNow 104 = .ok (.invokevirtual 215, 3) := by decide +kernel
theorem dX8_fieldNow_107 : decode cX8_fieldNow 107 = .ok (.iload_n 2, 1) := by decide +kernel
theorem dX8_fieldNow_108 : decode cX8_fieldNow 108 = .ok (.ireturn, 1) := by decide +kernel
theorem dX8_reads_0 : decode cX8_reads 0 = .ok (.aload_n 0, 1) := by decide +kernel
theorem dX8_reads_1 : decode cX8_reads 1 = .ok (.iconst 0, 1) := by decide +kernel
theorem dX8_reads_2 : decode cX8_reads 2 = .ok (.putfield 197, 3) := by decide +kernel
theorem dX8_reads_5 : decode cX8_reads 5 = .ok (.aload_n 0, 1) := by decide +kernel
theorem dX8_reads_6 : decode cX8_reads 6 = .ok (.iconst (-1), 1) := by decide +kernel
theorem dX8_reads_7 : decode cX8_reads 7 = .ok (.putfield 194, 3) := by decide +kernel
theorem dX8_reads_10 : decode cX8_reads 10 = .ok (.aload_n 0, 1) := by decide +kernel
theorem dX8_reads_11 : decode cX8_reads 11 = .ok (.getfield 114, 3) := by decide +kernel
theorem dX8_reads_14 : decode cX8_reads 14 = .ok (.iload_n 1, 1) := by decide +kernel
theorem dX8_reads_15 : decode cX8_reads 15 = .ok (.iconst 0, 1) := by decide +kernel
theorem dX8_reads_16 : decode cX8_reads 16 = .ok (.iastore, 1) := by decide +kernel
theorem dX8_reads_17 : decode cX8_reads 17 = .ok (.aload_n 0, 1) := by decide +kernel
theorem dX8_reads_18 : decode cX8_reads 18 = .ok (.getfield 102, 3) := by decide +kernel
theorem dX8_reads_21 : decode cX8_reads 21 = .ok (.iload_n 1, 1) := by decide +kernel
theorem dX8_reads_22 : decode cX8_reads 22 = .ok (.aload_n 0, 1) := by decide +kernel
theorem dX8_reads_23 : decode cX8_reads 23 = .ok (.iconst 0, 1) := by decide +kernel
theorem dX8_reads_24 : decode cX8_reads 24 = .ok (.invokevirtual 200, 3) := by decide +kernel
theorem dX8_reads_27 : decode cX8_reads 27 = .ok (.bipush 118, 2) := by decide +kernel
theorem dX8_reads_29 : decode cX8_reads 29 = .ok (.if_icmp .ne 7, 3) := by decide +kernel
theorem dX8_reads_32 : decode cX8_reads 32 = .ok (.iconst 1, 1) := by decide +kernel
theorem dX8_reads_33 : decode cX8_reads 33 = .ok (.goto 4, 3) := by decide +kernel
theorem dX8_reads_36 : decode cX8_reads 36 = .ok (.iconst 0, 1) := by decide +kernel
theorem dX8_reads_37 : decode cX8_reads 37 = .ok (.iastore, 1) := by decide +kernel
theorem dX8_reads_38 : decode cX8_reads 38 = .ok (.aload_n 0, 1) := by decide +kernel
theorem dX8_reads_39 : decode cX8_reads 39 = .ok (.aload_n 0, 1) := by decide +kernel
theorem dX8_reads_40 : decode cX8_reads 40 = .ok (.getfield 102, 3) := by decide +kernel
theorem dX8_reads_43 : decode cX8_reads 43 = .ok (.iload_n 1, 1) := by decide +kernel
theorem dX8_reads_44 : decode cX8_reads 44 = .ok (.iaload, 1) := by decide +kernel
theorem dX8_reads_45 : decode cX8_reads 45 = .ok (.iconst 1, 1) := by decide +kernel
theorem dX8_reads_46 : decode cX8_reads 46 = .ok (.if_icmp .ne 8, 3) := by decide +kernel
theorem dX8_reads_49 : decode cX8_reads 49 = .ok (.ldc 219, 2) := by decide +kernel
theorem dX8_reads_51 : decode cX8_reads 51 = .ok (.goto 5, 3) := by decide +kernel
theorem dX8_reads_54 : decode cX8_reads 54 = .ok (.ldc 221, 2) := by decide +kernel
theorem dX8_reads_56 : decode cX8_reads 56 = .ok (.invokevirtual 215, 3) := by decide +kernel
theorem dX8_reads_59 : decode cX8_reads 59 = .ok (.aload_n 0, 1) := by decide +kernel
theorem dX8_reads_60 : decode cX8_reads 60 = .ok (.getfield 105, 3) := by decide +kernel
theorem dX8_reads_63 : decode cX8_reads 63 = .ok (.iload_n 1, 1) := by decide +kernel
theorem dX8_reads_64 : decode cX8_reads 64 = .ok (.aload_n 0, 1) := by decide +kernel
theorem dX8_reads_65 : decode cX8_reads 65 = .ok (.invokevirtual 223, 3) := by decide +kernel
theorem dX8_reads_68 : decode cX8_reads 68 = .ok (.iastore, 1) := by decide +kernel
theorem dX8_reads_69 : decode cX8_reads 69 = .ok (.aload_n 0, 1) := by decide +kernel
theorem dX8_reads_70 : decode cX8_reads 70 = .ok (.getfield 194, 3) := by decide +kernel
theorem dX8_reads_73 : decode cX8_reads 73 = .ok (.iconst (-1), 1) := by decide +kernel
theorem dX8_reads_74 : decode cX8_reads 74 = .ok (.if_icmp .ne 243, 3) := by decide +kernel
theorem dX8_reads_77 : decode cX8_reads 77 = .ok (.aload_n 0, 1) := by decide +kernel
theorem dX8_reads_78 : decode cX8_reads 78 = .ok (.getfield 197, 3) := by decide +kernel
theorem dX8_reads_81 : decode cX8_reads 81 = .ok (.aload_n 0, 1) := by decide +kernel
theorem dX8_reads_82 : decode cX8_reads 82 = .ok (.getfield 185, 3) := by decide +kernel
theorem dX8_reads_85 : decode cX8_reads 85 = .ok (.if_icmp .ge 232, 3) := by decide +kernel
theorem dX8_reads_88 : decode cX8_reads 88 = .ok (.aload_n 0, 1) := by decide +kernel
theorem dX8_reads_89 : decode cX8_reads 89 = .ok (.getfield 114, 3) := by decide +kernel
theorem dX8_reads_92 : decode cX8_reads 92 = .ok (.iload_n 1, 1) := by decide +kernel
theorem dX8_reads_93 : decode cX8_reads 93 = .ok (.iaload, 1) := by decide +kernel
theorem dX8_reads_94 : decode cX8_reads 94 = .ok (.istore_n 2, 1) := by decide +kernel
theorem dX8_reads_95 : decode cX8_reads 95 = .ok (.iload_n 2, 1) := by decide +kernel
theorem dX8_reads_96 : decode cX8_reads 96 = .ok (.iconst 3, 1) := by decide +kernel
theorem dX8_reads_97 : decode cX8_reads 97 = .ok (.if_icmp .ne 12, 3) := by decide +kernel
theorem dX8_reads_100 : decode cX8_reads 100 = .ok (.aload_n 0, 1) := by decide +kernel
theorem dX8_reads_101 : decode cX8_reads 101 = .ok (.aload_n 0, 1) := by decide +kernel
theorem dX8_reads_102 : decode cX8_reads 102 = .ok (.getfield 197, 3) := by decide +kernel
theorem dX8_reads_105 : decode cX8_reads 105 = .ok (.putfield 194, 3) := by decide +kernel
theorem dX8_reads_108 : decode cX8_reads 108 = .ok (.return_, 1) := by decide +kernel
theorem dX8_reads_109 : decode cX8_reads 109 = .ok (.aload_n 0, 1) := by decide +kernel
theorem dX8_reads_110 : decode cX8_reads 110 = .ok (.iload_n 2, 1) := by decide +kernel
theorem dX8_reads_111 : decode cX8_reads 111 = .ok (.ifCond .ne 8, 3) := by decide +kernel
theorem dX8_reads_114 : decode cX8_reads 114 = .ok (.ldc 226, 2) := by decide +kernel
theorem dX8_reads_116 : decode cX8_reads 116 = .ok (.goto 5, 3) := by decide +kernel
theorem dX8_reads_119 : decode cX8_reads 119 = .ok (.ldc 228, 2) := by decide +kernel
theorem dX8_reads_121 : decode cX8_reads 121 = .ok (.invokevirtual 215, 3) := by decide +kernel
theorem dX8_reads_124 : decode cX8_reads 124 = .ok (.iconst 3, 1) := by decide +kernel
theorem dX8_reads_125 : decode cX8_reads 125 = .ok (.iload_n 1, 1) := by decide +kernel
theorem dX8_reads_126 : decode cX8_reads 126 = .ok (.imul, 1) := by decide +kernel
theorem dX8_reads_127 : decode cX8_reads 127 = .ok (.iload_n 2, 1) := by decide +kernel
theorem dX8_reads_128 : decode cX8_reads 128 = .ok (.iadd, 1) := by decide +kernel
theorem dX8_reads_129 : decode cX8_reads 129 = .ok (.istore_n 3, 1) := by decide +kernel
theorem dX8_reads_130 : decode cX8_reads 130 = .ok (.aload_n 0, 1) := by decide +kernel
theorem dX8_reads_131 : decode cX8_reads 131 = .ok (.getfield 194, 3) := by decide +kernel
theorem dX8_reads_134 : decode cX8_reads 134 = .ok (.iconst (-1), 1) := by decide +kernel
theorem dX8_reads_135 : decode cX8_reads 135 = .ok (.if_icmp .ne 13, 3) := by decide +kernel
theorem dX8_reads_138 : decode cX8_reads 138 = .ok (.aload_n 0, 1) := by decide +kernel
theorem dX8_reads_139 : decode cX8_reads 139 = .ok (.getfield 117, 3) := by decide +kernel
theorem dX8_reads_142 : decode cX8_reads 142 = .ok (.iload_n 3, 1) := by decide +kernel
theorem dX8_reads_143 : decode cX8_reads 143 = .ok (.aload_n 0, 1) := by decide +kernel
theorem dX8_reads_144 : decode cX8_reads 144 = .ok (.invokevirtual 230, 3) := by decide +kernel
theorem dX8_reads_147 : decode cX8_reads 147 = .ok (.iastore, 1) := by decide +kernel
theorem dX8_reads_148 : decode cX8_reads 148 = .ok (.aload_n 0, 1) := by decide +kernel
theorem dX8_reads_149 : decode cX8_reads 149 = .ok (.getfield 194, 3) := by decide +kernel
theorem dX8_reads_152 : decode cX8_reads 152 = .ok (.iconst (-1), 1) := by decide +kernel
theorem dX8_reads_153 : decode cX8_reads 153 = .ok (.if_icmp .ne 84, 3) := by decide +kernel
theorem dX8_reads_156 : decode cX8_reads 156 = .ok (.aload_n 0, 1) := by decide +kernel
theorem dX8_reads_157 : decode cX8_reads 157 = .ok (.aload_n 0, 1) := by decide +kernel
theorem dX8_reads_158 : decode cX8_reads 158 = .ok (.getfield 197, 3) := by decide +kernel
theorem dX8_reads_161 : decode cX8_reads 161 = .ok (.invokevirtual 200, 3) := by decide +kernel
theorem dX8_reads_164 : decode cX8_reads 164 = .ok (.istore 4, 2) := by decide +kernel
theorem dX8_reads_166 : decode cX8_reads 166 = .ok (.aload_n 0, 1) := by decide +kernel
theorem dX8_reads_167 : decode cX8_reads 167 = .ok (.getfield 120, 3) := by decide +kernel
theorem dX8_reads_170 : decode cX8_reads 170 = .ok (.iload_n 3, 1) := by decide +kernel
theorem dX8_reads_171 : decode cX8_reads 171 = .ok (.iload 4, 2) := by decide +kernel
theorem dX8_reads_173 : decode cX8_reads 173 = .ok (.bipush 61, 2) := by decide +kernel
theorem dX8_reads_175 : decode cX8_reads 175 = .ok (.if_icmp .ne 7, 3) := by decide +kernel
theorem dX8_reads_178 : decode cX8_reads 178 = .ok (.iconst 0, 1) := by decide +kernel
theorem dX8_reads_179 : decode cX8_reads 179 = .ok (.goto 15, 3) := by decide +kernel
theorem dX8_reads_182 : decode cX8_reads 182 = .ok (.iload 4, 2) := by decide +kernel
theorem dX8_reads_184 : decode cX8_reads 184 = .ok (.bipush 60, 2) := by decide +kernel
theorem dX8_reads_186 : decode cX8_reads 186 = .ok (.if_icmp .ne 7, 3) := by decide +kernel
theorem dX8_reads_189 : decode cX8_reads 189 = .ok (.iconst (-1), 1) := by decide +kernel
theorem dX8_reads_190 : decode cX8_reads 190 = .ok (.goto 4, 3) := by decide +kernel
theorem dX8_reads_193 : decode cX8_reads 193 = .ok (.iconst 1, 1) := by decide +kernel
theorem dX8_reads_194 : decode cX8_reads 194 = .ok (.iastore, 1) := by decide +kernel
theorem dX8_reads_195 : decode cX8_reads 195 = .ok (.iload 4, 2) := by decide +kernel
theorem dX8_reads_197 : decode cX8_reads 197 = .ok (.bipush 61, 2) := by decide +kernel
theorem dX8_reads_199 : decode cX8_reads 199 = .ok (.if_icmp .eq 17, 3) := by decide +kernel
theorem dX8_reads_202 : decode cX8_reads 202 = .ok (.iload 4, 2) := by decide +kernel
theorem dX8_reads_204 : decode cX8_reads 204 = .ok (.bipush 60, 2) := by decide +kernel
theorem dX8_reads_206 : decode cX8_reads 206 = .ok (.if_icmp .eq 10, 3) := by decide +kernel
theorem dX8_reads_209 : decode cX8_reads 209 = .ok (.iload 4, 2) := by decide +kernel
theorem dX8_reads_211 : decode cX8_reads 211 = .ok (.bipush 62, 2) := by decide +kernel
theorem dX8_reads_213 : decode cX8_reads 213 = .ok (.if_icmp .ne 16, 3) := by decide +kernel
theorem dX8_reads_216 : decode cX8_reads 216 = .ok (.aload_n 0, 1) := by decide +kernel
theorem dX8_reads_217 : decode cX8_reads 217 = .ok (.dup, 1) := by decide +kernel
theorem dX8_reads_218 : decode cX8_reads 218 = .ok (.getfield 197, 3) := by decide +kernel
theorem dX8_reads_221 : decode cX8_reads 221 = .ok (.iconst 1, 1) := by decide +kernel
theorem dX8_reads_222 : decode cX8_reads 222 = .ok (.iadd, 1) := by decide +kernel
theorem dX8_reads_223 : decode cX8_reads 223 = .ok (.putfield 197, 3) := by decide +kernel
theorem dX8_reads_226 : decode cX8_reads 226 = .ok (.goto 11, 3) := by decide +kernel
theorem dX8_reads_229 : decode cX8_reads 229 = .ok (.aload_n 0, 1) := by decide +kernel
theorem dX8_reads_230 : decode cX8_reads 230 = .ok (.aload_n 0, 1) := by decide +kernel
theorem dX8_reads_231 : decode cX8_reads 231 = .ok (.getfield 197, 3) := by decide +kernel
theorem dX8_reads_234 : decode cX8_reads 234 = .ok (.putfield 194, 3) := by decide +kernel
theorem dX8_reads_237 : decode cX8_reads 237 = .ok (.aload_n 0, 1) := by decide +kernel
theorem dX8_reads_238 : decode cX8_reads 238 = .ok (.getfield 194, 3) := by decide +kernel
theorem dX8_reads_241 : decode cX8_reads 241 = .ok (.iconst (-1), 1) := by decide +kernel
theorem dX8_reads_242 : decode cX8_reads 242 = .ok (.if_icmp .ne 20, 3) := by decide +kernel
theorem dX8_reads_245 : decode cX8_reads 245 = .ok (.aload_n 0, 1) := by decide +kernel
theorem dX8_reads_246 : decode cX8_reads 246 = .ok (.aload_n 0, 1) := by decide +kernel
theorem dX8_reads_247 : decode cX8_reads 247 = .ok (.getfield 197, 3) := by decide +kernel
theorem dX8_reads_250 : decode cX8_reads 250 = .ok (.invokevirtual 200, 3) := by decide +kernel
theorem dX8_reads_253 : decode cX8_reads 253 = .ok (.bipush 45, 2) := by decide +kernel
theorem dX8_reads_255 : decode cX8_reads 255 = .ok (.if_icmp .ne 7, 3) := by decide +kernel
theorem dX8_reads_258 : decode cX8_reads 258 = .ok (.iconst 1, 1) := by decide +kernel
theorem dX8_reads_259 : decode cX8_reads 259 = .ok (.goto 4, 3) := by decide +kernel
theorem dX8_reads_262 : decode cX8_reads 262 = .ok (.iconst 0, 1) := by decide +kernel
theorem dX8_reads_263 : decode cX8_reads 263 = .ok (.istore 4, 2) := by decide +kernel
theorem dX8_reads_265 : decode cX8_reads 265 = .ok (.iload 4, 2) := by decide +kernel
theorem dX8_reads_267 : decode cX8_reads 267 = .ok (.ifCond .eq 13, 3) := by decide +kernel
theorem dX8_reads_270 : decode cX8_reads 270 = .ok (.aload_n 0, 1) := by decide +kernel
theorem dX8_reads_271 : decode cX8_reads 271 = .ok (.dup, 1) := by decide +kernel
theorem dX8_reads_272 : decode cX8_reads 272 = .ok (.getfield 197, 3) := by decide +kernel
theorem dX8_reads_275 : decode cX8_reads 275 = .ok (.iconst 1, 1) := by decide +kernel
theorem dX8_reads_276 : decode cX8_reads 276 = .ok (.iadd, 1) := by decide +kernel
theorem dX8_reads_277 : decode cX8_reads 277 = .ok (.putfield 197, 3) := by decide +kernel
theorem dX8_reads_280 : decode cX8_reads 280 = .ok (.aload_n 0, 1) := by decide +kernel
theorem dX8_reads_281 : decode cX8_reads 281 = .ok (.invokevirtual 223, 3) := by decide +kernel
theorem dX8_reads_284 : decode cX8_reads 284 = .ok (.istore 5, 2) := by decide +kernel
theorem dX8_reads_286 : decode cX8_reads 286 = .ok (.aload_n 0, 1) := by decide +kernel
theorem dX8_reads_287 : decode cX8_reads 287 = .ok (.getfield 123, 3) := by decide +kernel
theorem dX8_reads_290 : decode cX8_reads 290 = .ok (.iload_n 3, 1) := by decide +kernel
theorem dX8_reads_291 : decode cX8_reads 291 = .ok (.iload 4, 2) := by decide +kernel
theorem dX8_reads_293 : decode cX8_reads 293 = .ok (.ifCond .eq 9, 3) := by decide +kernel
theorem dX8_reads_296 : decode cX8_reads 296 = .ok (.iload 5, 2) := by decide +kernel
theorem dX8_reads_298 : decode cX8_reads 298 = .ok (.ineg, 1) := by decide +kernel
theorem dX8_reads_299 : decode cX8_reads 299 = .ok (.goto 5, 3) := by decide +kernel
theorem dX8_reads_302 : decode cX8_reads 302 = .ok (.iload 5, 2) := by decide +kernel
theorem dX8_reads_304 : decode cX8_reads 304 = .ok (.iastore, 1) := by decide +kernel
theorem dX8_reads_305 : decode cX8_reads 305 = .ok (.aload_n 0, 1) := by decide +kernel
theorem dX8_reads_306 : decode cX8_reads 306 = .ok (.getfield 114, 3) := by decide +kernel
theorem dX8_reads_309 : decode cX8_reads 309 = .ok (.iload_n 1, 1) := by decide +kernel
theorem dX8_reads_310 : decode cX8_reads 310 = .ok (.iload_n 2, 1) := by decide +kernel
theorem dX8_reads_311 : decode cX8_reads 311 = .ok (.iconst 1, 1) := by decide +kernel
theorem dX8_reads_312 : decode cX8_reads 312 = .ok (.iadd, 1) := by decide +kernel
theorem dX8_reads_313 : decode cX8_reads 313 = .ok (.iastore, 1) := by decide +kernel
theorem dX8_reads_314 : decode cX8_reads 314 = .ok (.goto (-245), 3) := by decide +kernel
theorem dX8_reads_317 : decode cX8_reads 317 = .ok (.return_, 1) := by decide +kernel
theorem dX8_rule_0 : decode cX8_rule 0 = .ok (.iload_n 1, 1) := by decide +kernel
theorem dX8_rule_1 : decode cX8_rule 1 = .ok (.ifCond .lt 14, 3) := by decide +kernel
theorem dX8_rule_4 : decode cX8_rule 4 = .ok (.iload_n 2, 1) := by decide +kernel
theorem dX8_rule_5 : decode cX8_rule 5 = .ok (.ldc 156, 2) := by decide +kernel
theorem dX8_rule_7 : decode cX8_rule 7 = .ok (.if_icmp .gt 8, 3) := by decide +kernel
theorem dX8_rule_10 : decode cX8_rule 10 = .ok (.iload_n 1, 1) := by decide +kernel
theorem dX8_rule_11 : decode cX8_rule 11 = .ok (.iload_n 2, 1) := by decide +kernel
theorem dX8_rule_12 : decode cX8_rule 12 = .ok (.if_icmp .lt 10, 3) := by decide +kernel
theorem dX8_rule_15 : decode cX8_rule 15 = .ok (.aload_n 0, 1) := by decide +kernel
theorem dX8_rule_16 : decode cX8_rule 16 = .ok (.bipush (-7), 2) := by decide +kernel
theorem dX8_rule_18 : decode cX8_rule 18 = .ok (.invokevirtual 148, 3) := by decide +kernel
theorem dX8_rule_21 : decode cX8_rule 21 = .ok (.ireturn, 1) := by decide +kernel
theorem dX8_rule_22 : decode cX8_rule 22 = .ok (.aload_n 0, 1) := by decide +kernel
theorem dX8_rule_23 : decode cX8_rule 23 = .ok (.getfield 233, 3) := by decide +kernel
theorem dX8_rule_26 : decode cX8_rule 26 = .ok (.bipush 10, 2) := by decide +kernel
theorem dX8_rule_28 : decode cX8_rule 28 = .ok (.if_icmp .ne 10, 3) := by decide +kernel
theorem dX8_rule_31 : decode cX8_rule 31 = .ok (.aload_n 0, 1) := by decide +kernel
theorem dX8_rule_32 : decode cX8_rule 32 = .ok (.bipush (-8), 2) := by decide +kernel
theorem dX8_rule_34 : decode cX8_rule 34 = .ok (.invokevirtual 148, 3) := by decide +kernel
theorem dX8_rule_37 : decode cX8_rule 37 = .ok (.ireturn, 1) := by decide +kernel
theorem dX8_rule_38 : decode cX8_rule 38 = .ok (.aload_n 0, 1) := by decide +kernel
theorem dX8_rule_39 : decode cX8_rule 39 = .ok (.aload_n 0, 1) := by decide +kernel
theorem dX8_rule_40 : decode cX8_rule 40 = .ok (.getfield 233, 3) := by decide +kernel
theorem dX8_rule_43 : decode cX8_rule 43 = .ok (.invokevirtual 236, 3) := by decide +kernel
theorem dX8_rule_46 : decode cX8_rule 46 = .ok (.aload_n 0, 1) := by decide +kernel
theorem dX8_rule_47 : decode cX8_rule 47 = .ok (.getfield 194, 3) := by decide +kernel
theorem dX8_rule_50 : decode cX8_rule 50 = .ok (.iconst (-1), 1) := by decide +kernel
theorem dX8_rule_51 : decode cX8_rule 51 = .ok (.if_icmp .eq 11, 3) := by decide +kernel
theorem dX8_rule_54 : decode cX8_rule 54 = .ok (.bipush (-10), 2) := by decide +kernel
theorem dX8_rule_56 : decode cX8_rule 56 = .ok (.aload_n 0, 1) := by decide +kernel
theorem dX8_rule_57 : decode cX8_rule 57 = .ok (.getfield 194, 3) := by decide +kernel
theorem dX8_rule_60 : decode cX8_rule 60 = .ok (.isub, 1) := by decide +kernel
theorem dX8_rule_61 : decode cX8_rule 61 = .ok (.ireturn, 1) := by decide +kernel
theorem dX8_rule_62 : decode cX8_rule 62 = .ok (.aload_n 0, 1) := by decide +kernel
theorem dX8_rule_63 : decode cX8_rule 63 = .ok (.getfield 108, 3) := by decide +kernel
theorem dX8_rule_66 : decode cX8_rule 66 = .ok (.aload_n 0, 1) := by decide +kernel
theorem dX8_rule_67 : decode cX8_rule 67 = .ok (.getfield 233, 3) := by decide +kernel
theorem dX8_rule_70 : decode cX8_rule 70 = .ok (.iload_n 1, 1) := by decide +kernel
theorem dX8_rule_71 : decode cX8_rule 71 = .ok (.iastore, 1) := by decide +kernel
theorem dX8_rule_72 : decode cX8_rule 72 = .ok (.aload_n 0, 1) := by decide +kernel
theorem dX8_rule_73 : decode cX8_rule 73 = .ok (.getfield 111, 3) := by decide +kernel
theorem dX8_rule_76 : decode cX8_rule 76 = .ok (.aload_n 0, 1) := by decide +kernel
theorem dX8_rule_77 : decode cX8_rule 77 = .ok (.getfield 233, 3) := by decide +kernel
theorem dX8_rule_80 : decode cX8_rule 80 = .ok (.iload_n 2, 1) := by decide +kernel
theorem dX8_rule_81 : decode cX8_rule 81 = .ok (.iastore, 1) := by decide +kernel
theorem dX8_rule_82 : decode cX8_rule 82 = .ok (.aload_n 0, 1) := by decide +kernel
theorem dX8_rule_83 : decode cX8_rule 83 = .ok (.iconst 0, 1) := by decide +kernel
theorem dX8_rule_84 : decode cX8_rule 84 = .ok (.putfield 185, 3) := by decide +kernel
theorem dX8_rule_87 : decode cX8_rule 87 = .ok (.aload_n 0, 1) := by decide +kernel
theorem dX8_rule_88 : decode cX8_rule 88 = .ok (.dup, 1) := by decide +kernel
theorem dX8_rule_89 : decode cX8_rule 89 = .ok (.getfield 233, 3) := by decide +kernel
theorem dX8_rule_92 : decode cX8_rule 92 = .ok (.dup_x1, 1) := by decide +kernel
theorem dX8_rule_93 : decode cX8_rule 93 = .ok (.iconst 1, 1) := by decide +kernel
theorem dX8_rule_94 : decode cX8_rule 94 = .ok (.iadd, 1) := by decide +kernel
theorem dX8_rule_95 : decode cX8_rule 95 = .ok (.putfield 233, 3) := by decide +kernel
theorem dX8_rule_98 : decode cX8_rule 98 = .ok (.ireturn, 1) := by decide +kernel
theorem dX8_outside_0 : decode cX8_outside 0 = .ok (.aload_n 0, 1) := by decide +kernel
theorem dX8_outside_1 : decode cX8_outside 1 = .ok (.getfield 53, 3) := by decide +kernel
theorem dX8_outside_4 : decode cX8_outside 4 = .ok (.iload_n 1, 1) := by decide +kernel
theorem dX8_outside_5 : decode cX8_outside 5 = .ok (.iaload, 1) := by decide +kernel
theorem dX8_outside_6 : decode cX8_outside 6 = .ok (.ifCond .ne 15, 3) := by decide +kernel
theorem dX8_outside_9 : decode cX8_outside 9 = .ok (.aload_n 0, 1) := by decide +kernel
theorem dX8_outside_10 : decode cX8_outside 10 = .ok (.aload_n 0, 1) := by decide +kernel
theorem dX8_outside_11 : decode cX8_outside 11 = .ok (.getfield 47, 3) := by decide +kernel
theorem dX8_outside_14 : decode cX8_outside 14 = .ok (.iload_n 1, 1) := by decide +kernel
theorem dX8_outside_15 : decode cX8_outside 15 = .ok (.iaload, 1) := by decide +kernel
theorem dX8_outside_16 : decode cX8_outside 16 = .ok (.iload_n 2, 1) := by decide +kernel
theorem dX8_outside_17 : decode cX8_outside 17 = .ok (.invokevirtual 164, 3) := by decide +kernel
theorem dX8_outside_20 : decode cX8_outside 20 = .ok (.ireturn, 1) := by decide +kernel
theorem dX8_outside_21 : decode cX8_outside 21 = .ok (.aload_n 0, 1) := by decide +kernel
theorem dX8_outside_22 : decode cX8_outside 22 = .ok (.aload_n 0, 1) := by decide +kernel
theorem dX8_outside_23 : decode cX8_outside 23 = .ok (.getfield 47, 3) := by decide +kernel
theorem dX8_outside_26 : decode cX8_outside 26 = .ok (.iload_n 1, 1) := by decide +kernel
theorem dX8_outside_27 : decode cX8_outside 27 = .ok (.iaload, 1) := by decide +kernel
theorem dX8_outside_28 : decode cX8_outside 28 = .ok (.iload_n 2, 1) := by decide +kernel
theorem dX8_outside_29 : decode cX8_outside 29 = .ok (.invokevirtual 164, 3) := by decide +kernel
theorem dX8_outside_32 : decode cX8_outside 32 = .ok (.aload_n 0, 1) := by decide +kernel
theorem dX8_outside_33 : decode cX8_outside 33 = .ok (.aload_n 0, 1) := by decide +kernel
theorem dX8_outside_34 : decode cX8_outside 34 = .ok (.getfield 50, 3) := by decide +kernel
theorem dX8_outside_37 : decode cX8_outside 37 = .ok (.iload_n 1, 1) := by decide +kernel
theorem dX8_outside_38 : decode cX8_outside 38 = .ok (.iaload, 1) := by decide +kernel
theorem dX8_outside_39 : decode cX8_outside 39 = .ok (.iload_n 2, 1) := by decide +kernel
theorem dX8_outside_40 : decode cX8_outside 40 = .ok (.invokevirtual 164, 3) := by decide +kernel
theorem dX8_outside_43 : decode cX8_outside 43 = .ok (.iadd, 1) := by decide +kernel
theorem dX8_outside_44 : decode cX8_outside 44 = .ok (.iconst 2, 1) := by decide +kernel
theorem dX8_outside_45 : decode cX8_outside 45 = .ok (.idiv, 1) := by decide +kernel
theorem dX8_outside_46 : decode cX8_outside 46 = .ok (.ireturn, 1) := by decide +kernel
theorem dX8_holds_0 : decode cX8_holds 0 = .ok (.aload_n 0, 1) := by decide +kernel
theorem dX8_holds_1 : decode cX8_holds 1 = .ok (.getfield 102, 3) := by decide +kernel
theorem dX8_holds_4 : decode cX8_holds 4 = .ok (.iload_n 1, 1) := by decide +kernel
theorem dX8_holds_5 : decode cX8_holds 5 = .ok (.iaload, 1) := by decide +kernel
theorem dX8_holds_6 : decode cX8_holds 6 = .ok (.iload_n 2, 1) := by decide +kernel
theorem dX8_holds_7 : decode cX8_holds 7 = .ok (.if_icmp .ne 25, 3) := by decide +kernel
theorem dX8_holds_10 : decode cX8_holds 10 = .ok (.iload 4, 2) := by decide +kernel
theorem dX8_holds_12 : decode cX8_holds 12 = .ok (.aload_n 0, 1) := by decide +kernel
theorem dX8_holds_13 : decode cX8_holds 13 = .ok (.getfield 108, 3) := by decide +kernel
theorem dX8_holds_16 : decode cX8_holds 16 = .ok (.iload_n 1, 1) := by decide +kernel
theorem dX8_holds_17 : decode cX8_holds 17 = .ok (.iaload, 1) := by decide +kernel
theorem dX8_holds_18 : decode cX8_holds 18 = .ok (.if_icmp .lt 14, 3) := by decide +kernel
theorem dX8_holds_21 : decode cX8_holds 21 = .ok (.iload 4, 2) := by decide +kernel
theorem dX8_holds_23 : decode cX8_holds 23 = .ok (.aload_n 0, 1) := by decide +kernel
theorem dX8_holds_24 : decode cX8_holds 24 = .ok (.getfield 111, 3) := by decide +kernel
theorem dX8_holds_27 : decode cX8_holds 27 = .ok (.iload_n 1, 1) := by decide +kernel
theorem dX8_holds_28 : decode cX8_holds 28 = .ok (.iaload, 1) := by decide +kernel
theorem dX8_holds_29 : decode cX8_holds 29 = .ok (.if_icmp .lt 5, 3) := by decide +kernel
theorem dX8_holds_32 : decode cX8_holds 32 = .ok (.iconst 0, 1) := by decide +kernel
theorem dX8_holds_33 : decode cX8_holds 33 = .ok (.ireturn, 1) := by decide +kernel
theorem dX8_holds_34 : decode cX8_holds 34 = .ok (.iconst 0, 1) := by decide +kernel
theorem dX8_holds_35 : decode cX8_holds 35 = .ok (.istore 6, 2) := by decide +kernel
theorem dX8_holds_37 : decode cX8_holds 37 = .ok (.iload 6, 2) := by decide +kernel
theorem dX8_holds_39 : decode cX8_holds 39 = .ok (.aload_n 0, 1) := by decide +kernel
theorem dX8_holds_40 : decode cX8_holds 40 = .ok (.getfield 114, 3) := by decide +kernel
theorem dX8_holds_43 : decode cX8_holds 43 = .ok (.iload_n 1, 1) := by decide +kernel
theorem dX8_holds_44 : decode cX8_holds 44 = .ok (.iaload, 1) := by decide +kernel
theorem dX8_holds_45 : decode cX8_holds 45 = .ok (.if_icmp .ge 201, 3) := by decide +kernel
theorem dX8_holds_48 : decode cX8_holds 48 = .ok (.iconst 3, 1) := by decide +kernel
theorem dX8_holds_49 : decode cX8_holds 49 = .ok (.iload_n 1, 1) := by decide +kernel
theorem dX8_holds_50 : decode cX8_holds 50 = .ok (.imul, 1) := by decide +kernel
theorem dX8_holds_51 : decode cX8_holds 51 = .ok (.iload 6, 2) := by decide +kernel
theorem dX8_holds_53 : decode cX8_holds 53 = .ok (.iadd, 1) := by decide +kernel
theorem dX8_holds_54 : decode cX8_holds 54 = .ok (.istore 7, 2) := by decide +kernel
theorem dX8_holds_56 : decode cX8_holds 56 = .ok (.iconst 0, 1) := by decide +kernel
theorem dX8_holds_57 : decode cX8_holds 57 = .ok (.istore 8, 2) := by decide +kernel
theorem dX8_holds_59 : decode cX8_holds 59 = .ok (.aload_n 0, 1) := by decide +kernel
theorem dX8_holds_60 : decode cX8_holds 60 = .ok (.getfield 117, 3) := by decide +kernel
theorem dX8_holds_63 : decode cX8_holds 63 = .ok (.iload 7, 2) := by decide +kernel
theorem dX8_holds_65 : decode cX8_holds 65 = .ok (.iaload, 1) := by decide +kernel
theorem dX8_holds_66 : decode cX8_holds 66 = .ok (.tableswitch 121 0 3 #[30, 41, 98, 110], 30) := by decide +kernel
theorem dX8_holds_96 : decode cX8_holds 96 = .ok (.aload_n 0, 1) := by decide +kernel
theorem dX8_holds_97 : decode cX8_holds 97 = .ok (.getfield 41, 3) := by decide +kernel
theorem dX8_holds_100 : decode cX8_holds 100 = .ok (.iload_n 3, 1) := by decide +kernel
theorem dX8_holds_101 : decode cX8_holds 101 = .ok (.iaload, 1) := by decide +kernel
theorem dX8_holds_102 : decode cX8_holds 102 = .ok (.istore 8, 2) := by decide +kernel
theorem dX8_holds_104 : decode cX8_holds 104 = .ok (.goto 87, 3) := by decide +kernel
theorem dX8_holds_107 : decode cX8_holds 107 = .ok (.aload_n 0, 1) := by decide +kernel
theorem dX8_holds_108 : decode cX8_holds 108 = .ok (.getfield 78, 3) := by decide +kernel
theorem dX8_holds_111 : decode cX8_holds 111 = .ok (.iconst 4, 1) := by decide +kernel
theorem dX8_holds_112 : decode cX8_holds 112 = .ok (.iload_n 3, 1) := by decide +kernel
theorem dX8_holds_113 : decode cX8_holds 113 = .ok (.imul, 1) := by decide +kernel
theorem dX8_holds_114 : decode cX8_holds 114 = .ok (.iaload, 1) := by decide +kernel
theorem dX8_holds_115 : decode cX8_holds 115 = .ok (.istore 8, 2) := by decide +kernel
theorem dX8_holds_117 : decode cX8_holds 117 = .ok (.iconst 1, 1) := by decide +kernel
theorem dX8_holds_118 : decode cX8_holds 118 = .ok (.istore 9, 2) := by decide +kernel
theorem dX8_holds_120 : decode cX8_holds 120 = .ok (.iload 9, 2) := by decide +kernel
theorem dX8_holds_122 : decode cX8_holds 122 = .ok (.iconst 4, 1) := by decide +kernel
theorem dX8_holds_123 : decode cX8_holds 123 = .ok (.if_icmp .ge 38, 3) := by decide +kernel
theorem dX8_holds_126 : decode cX8_holds 126 = .ok (.aload_n 0, 1) := by decide +kernel
theorem dX8_holds_127 : decode cX8_holds 127 = .ok (.getfield 78, 3) := by decide +kernel
theorem dX8_holds_130 : decode cX8_holds 130 = .ok (.iconst 4, 1) := by decide +kernel
theorem dX8_holds_131 : decode cX8_holds 131 = .ok (.iload_n 3, 1) := by decide +kernel
theorem dX8_holds_132 : decode cX8_holds 132 = .ok (.imul, 1) := by decide +kernel
theorem dX8_holds_133 : decode cX8_holds 133 = .ok (.iload 9, 2) := by decide +kernel
theorem dX8_holds_135 : decode cX8_holds 135 = .ok (.iadd, 1) := by decide +kernel
theorem dX8_holds_136 : decode cX8_holds 136 = .ok (.iaload, 1) := by decide +kernel
theorem dX8_holds_137 : decode cX8_holds 137 = .ok (.iload 8, 2) := by decide +kernel
theorem dX8_holds_139 : decode cX8_holds 139 = .ok (.if_icmp .le 16, 3) := by decide +kernel
theorem dX8_holds_142 : decode cX8_holds 142 = .ok (.aload_n 0, 1) := by decide +kernel
theorem dX8_holds_143 : decode cX8_holds 143 = .ok (.getfield 78, 3) := by decide +kernel
theorem dX8_holds_146 : decode cX8_holds 146 = .ok (.iconst 4, 1) := by decide +kernel
theorem dX8_holds_147 : decode cX8_holds 147 = .ok (.iload_n 3, 1) := by decide +kernel
theorem dX8_holds_148 : decode cX8_holds 148 = .ok (.imul, 1) := by decide +kernel
theorem dX8_holds_149 : decode cX8_holds 149 = .ok (.iload 9, 2) := by decide +kernel
theorem dX8_holds_151 : decode cX8_holds 151 = .ok (.iadd, 1) := by decide +kernel
theorem dX8_holds_152 : decode cX8_holds 152 = .ok (.iaload, 1) := by decide +kernel
theorem dX8_holds_153 : decode cX8_holds 153 = .ok (.istore 8, 2) := by decide +kernel
theorem dX8_holds_155 : decode cX8_holds 155 = .ok (.iinc 9 1, 3) := by decide +kernel
theorem dX8_holds_158 : decode cX8_holds 158 = .ok (.goto (-38), 3) := by decide +kernel
theorem dX8_holds_161 : decode cX8_holds 161 = .ok (.goto 30, 3) := by decide +kernel
theorem dX8_holds_164 : decode cX8_holds 164 = .ok (.aload_n 0, 1) := by decide +kernel
theorem dX8_holds_165 : decode cX8_holds 165 = .ok (.iload_n 3, 1) := by decide +kernel
theorem dX8_holds_166 : decode cX8_holds 166 = .ok (.iload 4, 2) := by decide +kernel
theorem dX8_holds_168 : decode cX8_holds 168 = .ok (.invokevirtual 239, 3) := by decide +kernel
theorem dX8_holds_171 : decode cX8_holds 171 = .ok (.istore 8, 2) := by decide +kernel
theorem dX8_holds_173 : decode cX8_holds 173 = .ok (.goto 18, 3) := by decide +kernel
theorem dX8_holds_176 : decode cX8_holds 176 = .ok (.aload_n 0, 1) := by decide +kernel
theorem dX8_holds_177 : decode cX8_holds 177 = .ok (.getfield 47, 3) := by decide +kernel
theorem dX8_holds_180 : decode cX8_holds 180 = .ok (.iload_n 3, 1) := by decide +kernel
theorem dX8_holds_181 : decode cX8_holds 181 = .ok (.iaload, 1) := by decide +kernel
theorem dX8_holds_182 : decode cX8_holds 182 = .ok (.istore 8, 2) := by decide +kernel
theorem dX8_holds_184 : decode cX8_holds 184 = .ok (.goto 7, 3) := by decide +kernel
theorem dX8_holds_187 : decode cX8_holds 187 = .ok (.iload 5, 2) := by decide +kernel
theorem dX8_holds_189 : decode cX8_holds 189 = .ok (.istore 8, 2) := by decide +kernel
theorem dX8_holds_191 : decode cX8_holds 191 = .ok (.iload 8, 2) := by decide +kernel
theorem dX8_holds_193 : decode cX8_holds 193 = .ok (.aload_n 0, 1) := by decide +kernel
theorem dX8_holds_194 : decode cX8_holds 194 = .ok (.getfield 123, 3) := by decide +kernel
theorem dX8_holds_197 : decode cX8_holds 197 = .ok (.iload 7, 2) := by decide +kernel
theorem dX8_holds_199 : decode cX8_holds 199 = .ok (.iaload, 1) := by decide +kernel
theorem dX8_holds_200 : decode cX8_holds 200 = .ok (.if_icmp .ge 7, 3) := by decide +kernel
theorem dX8_holds_203 : decode cX8_holds 203 = .ok (.iconst (-1), 1) := by decide +kernel
theorem dX8_holds_204 : decode cX8_holds 204 = .ok (.goto 20, 3) := by decide +kernel
theorem dX8_holds_207 : decode cX8_holds 207 = .ok (.iload 8, 2) := by decide +kernel
theorem dX8_holds_209 : decode cX8_holds 209 = .ok (.aload_n 0, 1) := by decide +kernel
theorem dX8_holds_210 : decode cX8_holds 210 = .ok (.getfield 123, 3) := by decide +kernel
theorem dX8_holds_213 : decode cX8_holds 213 = .ok (.iload 7, 2) := by decide +kernel
theorem dX8_holds_215 : decode cX8_holds 215 = .ok (.iaload, 1) := by decide +kernel
theorem dX8_holds_216 : decode cX8_holds 216 = .ok (.if_icmp .le 7, 3) := by decide +kernel
theorem dX8_holds_219 : decode cX8_holds 219 = .ok (.iconst 1, 1) := by decide +kernel
theorem dX8_holds_220 : decode cX8_holds 220 = .ok (.goto 4, 3) := by decide +kernel
theorem dX8_holds_223 : decode cX8_holds 223 = .ok (.iconst 0, 1) := by decide +kernel
theorem dX8_holds_224 : decode cX8_holds 224 = .ok (.istore 9, 2) := by decide +kernel
theorem dX8_holds_226 : decode cX8_holds 226 = .ok (.iload 9, 2) := by decide +kernel
theorem dX8_holds_228 : decode cX8_holds 228 = .ok (.aload_n 0, 1) := by decide +kernel
theorem dX8_holds_229 : decode cX8_holds 229 = .ok (.getfield 120, 3) := by decide +kernel
theorem dX8_holds_232 : decode cX8_holds 232 = .ok (.iload 7, 2) := by decide +kernel
theorem dX8_holds_234 : decode cX8_holds 234 = .ok (.iaload, 1) := by decide +kernel
theorem dX8_holds_235 : decode cX8_holds 235 = .ok (.if_icmp .eq 5, 3) := by decide +kernel
theorem dX8_holds_238 : decode cX8_holds 238 = .ok (.iconst 0, 1) := by decide +kernel
theorem dX8_holds_239 : decode cX8_holds 239 = .ok (.ireturn, 1) := by decide +kernel
theorem dX8_holds_240 : decode cX8_holds 240 = .ok (.iinc 6 1, 3) := by decide +kernel
theorem dX8_holds_243 : decode cX8_holds 243 = .ok (.goto (-206), 3) := by decide +kernel
theorem dX8_holds_246 : decode cX8_holds 246 = .ok (.iconst 1, 1) := by decide +kernel
theorem dX8_holds_247 : decode cX8_holds 247 = .ok (.ireturn, 1) := by decide +kernel
theorem dX8_obeys_0 : decode cX8_obeys 0 = .ok (.aload_n 0, 1) := by decide +kernel
theorem dX8_obeys_1 : decode cX8_obeys 1 = .ok (.getfield 47, 3) := by decide +kernel
theorem dX8_obeys_4 : decode cX8_obeys 4 = .ok (.iload_n 1, 1) := by decide +kernel
theorem dX8_obeys_5 : decode cX8_obeys 5 = .ok (.iaload, 1) := by decide +kernel
theorem dX8_obeys_6 : decode cX8_obeys 6 = .ok (.istore 4, 2) := by decide +kernel
theorem dX8_obeys_8 : decode cX8_obeys 8 = .ok (.aload_n 0, 1) := by decide +kernel
theorem dX8_obeys_9 : decode cX8_obeys 9 = .ok (.getfield 233, 3) := by decide +kernel
theorem dX8_obeys_12 : decode cX8_obeys 12 = .ok (.iconst 1, 1) := by decide +kernel
theorem dX8_obeys_13 : decode cX8_obeys 13 = .ok (.isub, 1) := by decide +kernel
theorem dX8_obeys_14 : decode cX8_obeys 14 = .ok (.istore 5, 2) := by decide +kernel
theorem dX8_obeys_16 : decode cX8_obeys 16 = .ok (.iload 5, 2) := by decide +kernel
theorem dX8_obeys_18 : decode cX8_obeys 18 = .ok (.ifCond .lt 46, 3) := by decide +kernel
theorem dX8_obeys_21 : decode cX8_obeys 21 = .ok (.aload_n 0, 1) := by decide +kernel
theorem dX8_obeys_22 : decode cX8_obeys 22 = .ok (.iload 5, 2) := by decide +kernel
theorem dX8_obeys_24 : decode cX8_obeys 24 = .ok (.iconst 1, 1) := by decide +kernel
theorem dX8_obeys_25 : decode cX8_obeys 25 = .ok (.iload_n 1, 1) := by decide +kernel
theorem dX8_obeys_26 : decode cX8_obeys 26 = .ok (.iload_n 2, 1) := by decide +kernel
theorem dX8_obeys_27 : decode cX8_obeys 27 = .ok (.iload_n 3, 1) := by decide +kernel
theorem dX8_obeys_28 : decode cX8_obeys 28 = .ok (.invokevirtual 242, 3) := by decide +kernel
theorem dX8_obeys_31 : decode cX8_obeys 31 = .ok (.ifCond .eq 27, 3) := by decide +kernel
theorem dX8_obeys_34 : decode cX8_obeys 34 = .ok (.aload_n 0, 1) := by decide +kernel
theorem dX8_obeys_35 : decode cX8_obeys 35 = .ok (.getfield 44, 3) := by decide +kernel
theorem dX8_obeys_38 : decode cX8_obeys 38 = .ok (.iload_n 1, 1) := by decide +kernel
theorem dX8_obeys_39 : decode cX8_obeys 39 = .ok (.aload_n 0, 1) := by decide +kernel
theorem dX8_obeys_40 : decode cX8_obeys 40 = .ok (.getfield 105, 3) := by decide +kernel
theorem dX8_obeys_43 : decode cX8_obeys 43 = .ok (.iload 5, 2) := by decide +kernel
theorem dX8_obeys_45 : decode cX8_obeys 45 = .ok (.iaload, 1) := by decide +kernel
theorem dX8_obeys_46 : decode cX8_obeys 46 = .ok (.ifCond .eq 7, 3) := by decide +kernel
theorem dX8_obeys_49 : decode cX8_obeys 49 = .ok (.iconst 1, 1) := by decide +kernel
theorem dX8_obeys_50 : decode cX8_obeys 50 = .ok (.goto 4, 3) := by decide +kernel
theorem dX8_obeys_53 : decode cX8_obeys 53 = .ok (.iconst 0, 1) := by decide +kernel
theorem dX8_obeys_54 : decode cX8_obeys 54 = .ok (.iastore, 1) := by decide +kernel
theorem dX8_obeys_55 : decode cX8_obeys 55 = .ok (.goto 9, 3) := by decide +kernel
theorem dX8_obeys_58 : decode cX8_obeys 58 = .ok (.iinc 5 (-1), 3) := by decide +kernel
theorem dX8_obeys_61 : decode cX8_obeys 61 = .ok (.goto (-45), 3) := by decide +kernel
theorem dX8_obeys_64 : decode cX8_obeys 64 = .ok (.aload_n 0, 1) := by decide +kernel
theorem dX8_obeys_65 : decode cX8_obeys 65 = .ok (.getfield 65, 3) := by decide +kernel
theorem dX8_obeys_68 : decode cX8_obeys 68 = .ok (.iload_n 1, 1) := by decide +kernel
theorem dX8_obeys_69 : decode cX8_obeys 69 = .ok (.iconst 0, 1) := by decide +kernel
theorem dX8_obeys_70 : decode cX8_obeys 70 = .ok (.iastore, 1) := by decide +kernel
theorem dX8_obeys_71 : decode cX8_obeys 71 = .ok (.aload_n 0, 1) := by decide +kernel
theorem dX8_obeys_72 : decode cX8_obeys 72 = .ok (.getfield 233, 3) := by decide +kernel
theorem dX8_obeys_75 : decode cX8_obeys 75 = .ok (.iconst 1, 1) := by decide +kernel
theorem dX8_obeys_76 : decode cX8_obeys 76 = .ok (.isub, 1) := by decide +kernel
theorem dX8_obeys_77 : decode cX8_obeys 77 = .ok (.istore 5, 2) := by decide +kernel
theorem dX8_obeys_79 : decode cX8_obeys 79 = .ok (.iload 5, 2) := by decide +kernel
theorem dX8_obeys_81 : decode cX8_obeys 81 = .ok (.ifCond .lt 225, 3) := by decide +kernel
theorem dX8_obeys_84 : decode cX8_obeys 84 = .ok (.aload_n 0, 1) := by decide +kernel
theorem dX8_obeys_85 : decode cX8_obeys 85 = .ok (.iload 5, 2) := by decide +kernel
theorem dX8_obeys_87 : decode cX8_obeys 87 = .ok (.iconst 0, 1) := by decide +kernel
theorem dX8_obeys_88 : decode cX8_obeys 88 = .ok (.iload_n 1, 1) := by decide +kernel
theorem dX8_obeys_89 : decode cX8_obeys 89 = .ok (.iload_n 2, 1) := by decide +kernel
theorem dX8_obeys_90 : decode cX8_obeys 90 = .ok (.iload_n 3, 1) := by decide +kernel
theorem dX8_obeys_91 : decode cX8_obeys 91 = .ok (.invokevirtual 242, 3) := by decide +kernel
theorem dX8_obeys_94 : decode cX8_obeys 94 = .ok (.ifCond .ne 6, 3) := by decide +kernel
theorem dX8_obeys_97 : decode cX8_obeys 97 = .ok (.goto 203, 3) := by decide +kernel
theorem dX8_obeys_100 : decode cX8_obeys 100 = .ok (.aload_n 0, 1) := by decide +kernel
theorem dX8_obeys_101 : decode cX8_obeys 101 = .ok (.getfield 105, 3) := by decide +kernel
