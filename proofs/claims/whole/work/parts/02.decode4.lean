theorem dX8_obeys_104 : decode cX8_obeys 104 = .ok (.iload 5, 2) := by decide +kernel
theorem dX8_obeys_106 : decode cX8_obeys 106 = .ok (.iaload, 1) := by decide +kernel
theorem dX8_obeys_107 : decode cX8_obeys 107 = .ok (.bipush 100, 2) := by decide +kernel
theorem dX8_obeys_109 : decode cX8_obeys 109 = .ok (.if_icmp .le 8, 3) := by decide +kernel
theorem dX8_obeys_112 : decode cX8_obeys 112 = .ok (.bipush 100, 2) := by decide +kernel
theorem dX8_obeys_114 : decode cX8_obeys 114 = .ok (.goto 10, 3) := by decide +kernel
theorem dX8_obeys_117 : decode cX8_obeys 117 = .ok (.aload_n 0, 1) := by decide +kernel
theorem dX8_obeys_118 : decode cX8_obeys 118 = .ok (.getfield 105, 3) := by decide +kernel
theorem dX8_obeys_121 : decode cX8_obeys 121 = .ok (.iload 5, 2) := by decide +kernel
theorem dX8_obeys_123 : decode cX8_obeys 123 = .ok (.iaload, 1) := by decide +kernel
theorem dX8_obeys_124 : decode cX8_obeys 124 = .ok (.aload_n 0, 1) := by decide +kernel
theorem dX8_obeys_125 : decode cX8_obeys 125 = .ok (.getfield 41, 3) := by decide +kernel
theorem dX8_obeys_128 : decode cX8_obeys 128 = .ok (.iload_n 1, 1) := by decide +kernel
theorem dX8_obeys_129 : decode cX8_obeys 129 = .ok (.iaload, 1) := by decide +kernel
theorem dX8_obeys_130 : decode cX8_obeys 130 = .ok (.isub, 1) := by decide +kernel
theorem dX8_obeys_131 : decode cX8_obeys 131 = .ok (.istore 6, 2) := by decide +kernel
theorem dX8_obeys_133 : decode cX8_obeys 133 = .ok (.iload 6, 2) := by decide +kernel
theorem dX8_obeys_135 : decode cX8_obeys 135 = .ok (.ifCond .ge 6, 3) := by decide +kernel
theorem dX8_obeys_138 : decode cX8_obeys 138 = .ok (.iconst 0, 1) := by decide +kernel
theorem dX8_obeys_139 : decode cX8_obeys 139 = .ok (.istore 6, 2) := by decide +kernel
theorem dX8_obeys_141 : decode cX8_obeys 141 = .ok (.iload 6, 2) := by decide +kernel
theorem dX8_obeys_143 : decode cX8_obeys 143 = .ok (.aload_n 0, 1) := by decide +kernel
theorem dX8_obeys_144 : decode cX8_obeys 144 = .ok (.getfield 17, 3) := by decide +kernel
theorem dX8_obeys_147 : decode cX8_obeys 147 = .ok (.iload 4, 2) := by decide +kernel
theorem dX8_obeys_149 : decode cX8_obeys 149 = .ok (.iaload, 1) := by decide +kernel
theorem dX8_obeys_150 : decode cX8_obeys 150 = .ok (.if_icmp .ge 8, 3) := by decide +kernel
theorem dX8_obeys_153 : decode cX8_obeys 153 = .ok (.iload 6, 2) := by decide +kernel
theorem dX8_obeys_155 : decode cX8_obeys 155 = .ok (.goto 10, 3) := by decide +kernel
theorem dX8_obeys_158 : decode cX8_obeys 158 = .ok (.aload_n 0, 1) := by decide +kernel
theorem dX8_obeys_159 : decode cX8_obeys 159 = .ok (.getfield 17, 3) := by decide +kernel
theorem dX8_obeys_162 : decode cX8_obeys 162 = .ok (.iload 4, 2) := by decide +kernel
theorem dX8_obeys_164 : decode cX8_obeys 164 = .ok (.iaload, 1) := by decide +kernel
theorem dX8_obeys_165 : decode cX8_obeys 165 = .ok (.istore 7, 2) := by decide +kernel
theorem dX8_obeys_167 : decode cX8_obeys 167 = .ok (.iload 7, 2) := by decide +kernel
theorem dX8_obeys_169 : decode cX8_obeys 169 = .ok (.aload_n 0, 1) := by decide +kernel
theorem dX8_obeys_170 : decode cX8_obeys 170 = .ok (.getfield 20, 3) := by decide +kernel
theorem dX8_obeys_173 : decode cX8_obeys 173 = .ok (.iload 4, 2) := by decide +kernel
theorem dX8_obeys_175 : decode cX8_obeys 175 = .ok (.iaload, 1) := by decide +kernel
theorem dX8_obeys_176 : decode cX8_obeys 176 = .ok (.aload_n 0, 1) := by decide +kernel
theorem dX8_obeys_177 : decode cX8_obeys 177 = .ok (.getfield 29, 3) := by decide +kernel
theorem dX8_obeys_180 : decode cX8_obeys 180 = .ok (.iload 4, 2) := by decide +kernel
theorem dX8_obeys_182 : decode cX8_obeys 182 = .ok (.iaload, 1) := by decide +kernel
theorem dX8_obeys_183 : decode cX8_obeys 183 = .ok (.isub, 1) := by decide +kernel
theorem dX8_obeys_184 : decode cX8_obeys 184 = .ok (.if_icmp .le 41, 3) := by decide +kernel
theorem dX8_obeys_187 : decode cX8_obeys 187 = .ok (.aload_n 0, 1) := by decide +kernel
theorem dX8_obeys_188 : decode cX8_obeys 188 = .ok (.getfield 20, 3) := by decide +kernel
theorem dX8_obeys_191 : decode cX8_obeys 191 = .ok (.iload 4, 2) := by decide +kernel
theorem dX8_obeys_193 : decode cX8_obeys 193 = .ok (.iaload, 1) := by decide +kernel
theorem dX8_obeys_194 : decode cX8_obeys 194 = .ok (.aload_n 0, 1) := by decide +kernel
theorem dX8_obeys_195 : decode cX8_obeys 195 = .ok (.getfield 29, 3) := by decide +kernel
theorem dX8_obeys_198 : decode cX8_obeys 198 = .ok (.iload 4, 2) := by decide +kernel
theorem dX8_obeys_200 : decode cX8_obeys 200 = .ok (.iaload, 1) := by decide +kernel
theorem dX8_obeys_201 : decode cX8_obeys 201 = .ok (.if_icmp .le 21, 3) := by decide +kernel
theorem dX8_obeys_204 : decode cX8_obeys 204 = .ok (.aload_n 0, 1) := by decide +kernel
theorem dX8_obeys_205 : decode cX8_obeys 205 = .ok (.getfield 20, 3) := by decide +kernel
theorem dX8_obeys_208 : decode cX8_obeys 208 = .ok (.iload 4, 2) := by decide +kernel
theorem dX8_obeys_210 : decode cX8_obeys 210 = .ok (.iaload, 1) := by decide +kernel
theorem dX8_obeys_211 : decode cX8_obeys 211 = .ok (.aload_n 0, 1) := by decide +kernel
theorem dX8_obeys_212 : decode cX8_obeys 212 = .ok (.getfield 29, 3) := by decide +kernel
theorem dX8_obeys_215 : decode cX8_obeys 215 = .ok (.iload 4, 2) := by decide +kernel
theorem dX8_obeys_217 : decode cX8_obeys 217 = .ok (.iaload, 1) := by decide +kernel
theorem dX8_obeys_218 : decode cX8_obeys 218 = .ok (.isub, 1) := by decide +kernel
theorem dX8_obeys_219 : decode cX8_obeys 219 = .ok (.goto 4, 3) := by decide +kernel
theorem dX8_obeys_222 : decode cX8_obeys 222 = .ok (.iconst 0, 1) := by decide +kernel
theorem dX8_obeys_223 : decode cX8_obeys 223 = .ok (.istore 7, 2) := by decide +kernel
theorem dX8_obeys_225 : decode cX8_obeys 225 = .ok (.aload_n 0, 1) := by decide +kernel
theorem dX8_obeys_226 : decode cX8_obeys 226 = .ok (.getfield 41, 3) := by decide +kernel
theorem dX8_obeys_229 : decode cX8_obeys 229 = .ok (.iload_n 1, 1) := by decide +kernel
theorem dX8_obeys_230 : decode cX8_obeys 230 = .ok (.dup2, 1) := by decide +kernel
theorem dX8_obeys_231 : decode cX8_obeys 231 = .ok (.iaload, 1) := by decide +kernel
theorem dX8_obeys_232 : decode cX8_obeys 232 = .ok (.iload 7, 2) := by decide +kernel
theorem dX8_obeys_234 : decode cX8_obeys 234 = .ok (.iadd, 1) := by decide +kernel
theorem dX8_obeys_235 : decode cX8_obeys 235 = .ok (.iastore, 1) := by decide +kernel
theorem dX8_obeys_236 : decode cX8_obeys 236 = .ok (.aload_n 0, 1) := by decide +kernel
theorem dX8_obeys_237 : decode cX8_obeys 237 = .ok (.getfield 17, 3) := by decide +kernel
theorem dX8_obeys_240 : decode cX8_obeys 240 = .ok (.iload 4, 2) := by decide +kernel
theorem dX8_obeys_242 : decode cX8_obeys 242 = .ok (.dup2, 1) := by decide +kernel
theorem dX8_obeys_243 : decode cX8_obeys 243 = .ok (.iaload, 1) := by decide +kernel
theorem dX8_obeys_244 : decode cX8_obeys 244 = .ok (.iload 7, 2) := by decide +kernel
theorem dX8_obeys_246 : decode cX8_obeys 246 = .ok (.isub, 1) := by decide +kernel
theorem dX8_obeys_247 : decode cX8_obeys 247 = .ok (.iastore, 1) := by decide +kernel
theorem dX8_obeys_248 : decode cX8_obeys 248 = .ok (.aload_n 0, 1) := by decide +kernel
theorem dX8_obeys_249 : decode cX8_obeys 249 = .ok (.getfield 29, 3) := by decide +kernel
theorem dX8_obeys_252 : decode cX8_obeys 252 = .ok (.iload 4, 2) := by decide +kernel
theorem dX8_obeys_254 : decode cX8_obeys 254 = .ok (.dup2, 1) := by decide +kernel
theorem dX8_obeys_255 : decode cX8_obeys 255 = .ok (.iaload, 1) := by decide +kernel
theorem dX8_obeys_256 : decode cX8_obeys 256 = .ok (.iload 7, 2) := by decide +kernel
theorem dX8_obeys_258 : decode cX8_obeys 258 = .ok (.iadd, 1) := by decide +kernel
theorem dX8_obeys_259 : decode cX8_obeys 259 = .ok (.iastore, 1) := by decide +kernel
theorem dX8_obeys_260 : decode cX8_obeys 260 = .ok (.aload_n 0, 1) := by decide +kernel
theorem dX8_obeys_261 : decode cX8_obeys 261 = .ok (.dup, 1) := by decide +kernel
theorem dX8_obeys_262 : decode cX8_obeys 262 = .ok (.getfield 171, 3) := by decide +kernel
theorem dX8_obeys_265 : decode cX8_obeys 265 = .ok (.iload 7, 2) := by decide +kernel
theorem dX8_obeys_267 : decode cX8_obeys 267 = .ok (.iadd, 1) := by decide +kernel
theorem dX8_obeys_268 : decode cX8_obeys 268 = .ok (.putfield 171, 3) := by decide +kernel
theorem dX8_obeys_271 : decode cX8_obeys 271 = .ok (.aload_n 0, 1) := by decide +kernel
theorem dX8_obeys_272 : decode cX8_obeys 272 = .ok (.getfield 65, 3) := by decide +kernel
theorem dX8_obeys_275 : decode cX8_obeys 275 = .ok (.iload_n 1, 1) := by decide +kernel
theorem dX8_obeys_276 : decode cX8_obeys 276 = .ok (.iload 6, 2) := by decide +kernel
theorem dX8_obeys_278 : decode cX8_obeys 278 = .ok (.iload 7, 2) := by decide +kernel
theorem dX8_obeys_280 : decode cX8_obeys 280 = .ok (.isub, 1) := by decide +kernel
theorem dX8_obeys_281 : decode cX8_obeys 281 = .ok (.iastore, 1) := by decide +kernel
theorem dX8_obeys_282 : decode cX8_obeys 282 = .ok (.aload_n 0, 1) := by decide +kernel
theorem dX8_obeys_283 : decode cX8_obeys 283 = .ok (.getfield 62, 3) := by decide +kernel
theorem dX8_obeys_286 : decode cX8_obeys 286 = .ok (.iload_n 1, 1) := by decide +kernel
theorem dX8_obeys_287 : decode cX8_obeys 287 = .ok (.dup2, 1) := by decide +kernel
theorem dX8_obeys_288 : decode cX8_obeys 288 = .ok (.iaload, 1) := by decide +kernel
theorem dX8_obeys_289 : decode cX8_obeys 289 = .ok (.aload_n 0, 1) := by decide +kernel
theorem dX8_obeys_290 : decode cX8_obeys 290 = .ok (.getfield 65, 3) := by decide +kernel
theorem dX8_obeys_293 : decode cX8_obeys 293 = .ok (.iload_n 1, 1) := by decide +kernel
theorem dX8_obeys_294 : decode cX8_obeys 294 = .ok (.iaload, 1) := by decide +kernel
theorem dX8_obeys_295 : decode cX8_obeys 295 = .ok (.iadd, 1) := by decide +kernel
theorem dX8_obeys_296 : decode cX8_obeys 296 = .ok (.iastore, 1) := by decide +kernel
theorem dX8_obeys_297 : decode cX8_obeys 297 = .ok (.goto 9, 3) := by decide +kernel
theorem dX8_obeys_300 : decode cX8_obeys 300 = .ok (.iinc 5 (-1), 3) := by decide +kernel
theorem dX8_obeys_303 : decode cX8_obeys 303 = .ok (.goto (-224), 3) := by decide +kernel
theorem dX8_obeys_306 : decode cX8_obeys 306 = .ok (.return_, 1) := by decide +kernel
theorem dX8_lossAt_0 : decode cX8_lossAt 0 = .ok (.iload_n 1, 1) := by decide +kernel
theorem dX8_lossAt_1 : decode cX8_lossAt 1 = .ok (.bipush 50, 2) := by decide +kernel
theorem dX8_lossAt_3 : decode cX8_lossAt 3 = .ok (.idiv, 1) := by decide +kernel
theorem dX8_lossAt_4 : decode cX8_lossAt 4 = .ok (.istore_n 2, 1) := by decide +kernel
theorem dX8_lossAt_5 : decode cX8_lossAt 5 = .ok (.aload_n 0, 1) := by decide +kernel
theorem dX8_lossAt_6 : decode cX8_lossAt 6 = .ok (.getfield 35, 3) := by decide +kernel
theorem dX8_lossAt_9 : decode cX8_lossAt 9 = .ok (.iload_n 2, 1) := by decide +kernel
theorem dX8_lossAt_10 : decode cX8_lossAt 10 = .ok (.ifCond .ge 7, 3) := by decide +kernel
theorem dX8_lossAt_13 : decode cX8_lossAt 13 = .ok (.iconst 0, 1) := by decide +kernel
theorem dX8_lossAt_14 : decode cX8_lossAt 14 = .ok (.goto 15, 3) := by decide +kernel
theorem dX8_lossAt_17 : decode cX8_lossAt 17 = .ok (.iload_n 2, 1) := by decide +kernel
theorem dX8_lossAt_18 : decode cX8_lossAt 18 = .ok (.bipush 9, 2) := by decide +kernel
theorem dX8_lossAt_20 : decode cX8_lossAt 20 = .ok (.if_icmp .le 8, 3) := by decide +kernel
theorem dX8_lossAt_23 : decode cX8_lossAt 23 = .ok (.bipush 9, 2) := by decide +kernel
theorem dX8_lossAt_25 : decode cX8_lossAt 25 = .ok (.goto 4, 3) := by decide +kernel
theorem dX8_lossAt_28 : decode cX8_lossAt 28 = .ok (.iload_n 2, 1) := by decide +kernel
theorem dX8_lossAt_29 : decode cX8_lossAt 29 = .ok (.iaload, 1) := by decide +kernel
theorem dX8_lossAt_30 : decode cX8_lossAt 30 = .ok (.ireturn, 1) := by decide +kernel
theorem dX8_loses_0 : decode cX8_loses 0 = .ok (.aload_n 0, 1) := by decide +kernel
theorem dX8_loses_1 : decode cX8_loses 1 = .ok (.getfield 78, 3) := by decide +kernel
theorem dX8_loses_4 : decode cX8_loses 4 = .ok (.iload_n 1, 1) := by decide +kernel
theorem dX8_loses_5 : decode cX8_loses 5 = .ok (.iaload, 1) := by decide +kernel
theorem dX8_loses_6 : decode cX8_loses 6 = .ok (.istore_n 2, 1) := by decide +kernel
theorem dX8_loses_7 : decode cX8_loses 7 = .ok (.iconst 0, 1) := by decide +kernel
theorem dX8_loses_8 : decode cX8_loses 8 = .ok (.istore_n 3, 1) := by decide +kernel
theorem dX8_loses_9 : decode cX8_loses 9 = .ok (.aload_n 0, 1) := by decide +kernel
theorem dX8_loses_10 : decode cX8_loses 10 = .ok (.getfield 93, 3) := by decide +kernel
theorem dX8_loses_13 : decode cX8_loses 13 = .ok (.iload_n 1, 1) := by decide +kernel
theorem dX8_loses_14 : decode cX8_loses 14 = .ok (.dup2, 1) := by decide +kernel
theorem dX8_loses_15 : decode cX8_loses 15 = .ok (.iaload, 1) := by decide +kernel
theorem dX8_loses_16 : decode cX8_loses 16 = .ok (.iconst 1, 1) := by decide +kernel
theorem dX8_loses_17 : decode cX8_loses 17 = .ok (.iadd, 1) := by decide +kernel
theorem dX8_loses_18 : decode cX8_loses 18 = .ok (.iastore, 1) := by decide +kernel
theorem dX8_loses_19 : decode cX8_loses 19 = .ok (.aload_n 0, 1) := by decide +kernel
theorem dX8_loses_20 : decode cX8_loses 20 = .ok (.getfield 81, 3) := by decide +kernel
theorem dX8_loses_23 : decode cX8_loses 23 = .ok (.iload_n 1, 1) := by decide +kernel
theorem dX8_loses_24 : decode cX8_loses 24 = .ok (.iaload, 1) := by decide +kernel
theorem dX8_loses_25 : decode cX8_loses 25 = .ok (.tableswitch 100 0 3 #[31, 40, 51, 88], 31) := by decide +kernel
theorem dX8_loses_56 : decode cX8_loses 56 = .ok (.aload_n 0, 1) := by decide +kernel
theorem dX8_loses_57 : decode cX8_loses 57 = .ok (.iload_n 2, 1) := by decide +kernel
theorem dX8_loses_58 : decode cX8_loses 58 = .ok (.invokevirtual 246, 3) := by decide +kernel
theorem dX8_loses_61 : decode cX8_loses 61 = .ok (.istore_n 3, 1) := by decide +kernel
theorem dX8_loses_62 : decode cX8_loses 62 = .ok (.goto 87, 3) := by decide +kernel
theorem dX8_loses_65 : decode cX8_loses 65 = .ok (.iconst 2, 1) := by decide +kernel
theorem dX8_loses_66 : decode cX8_loses 66 = .ok (.aload_n 0, 1) := by decide +kernel
theorem dX8_loses_67 : decode cX8_loses 67 = .ok (.iload_n 2, 1) := by decide +kernel
theorem dX8_loses_68 : decode cX8_loses 68 = .ok (.invokevirtual 246, 3) := by decide +kernel
theorem dX8_loses_71 : decode cX8_loses 71 = .ok (.imul, 1) := by decide +kernel
theorem dX8_loses_72 : decode cX8_loses 72 = .ok (.istore_n 3, 1) := by decide +kernel
theorem dX8_loses_73 : decode cX8_loses 73 = .ok (.goto 76, 3) := by decide +kernel
theorem dX8_loses_76 : decode cX8_loses 76 = .ok (.aload_n 0, 1) := by decide +kernel
theorem dX8_loses_77 : decode cX8_loses 77 = .ok (.getfield 90, 3) := by decide +kernel
theorem dX8_loses_80 : decode cX8_loses 80 = .ok (.iload_n 1, 1) := by decide +kernel
theorem dX8_loses_81 : decode cX8_loses 81 = .ok (.iaload, 1) := by decide +kernel
theorem dX8_loses_82 : decode cX8_loses 82 = .ok (.ifCond .ne 12, 3) := by decide +kernel
theorem dX8_loses_85 : decode cX8_loses 85 = .ok (.aload_n 0, 1) := by decide +kernel
theorem dX8_loses_86 : decode cX8_loses 86 = .ok (.iload_n 2, 1) := by decide +kernel
theorem dX8_loses_87 : decode cX8_loses 87 = .ok (.invokevirtual 246, 3) := by decide +kernel
theorem dX8_loses_90 : decode cX8_loses 90 = .ok (.istore_n 3, 1) := by decide +kernel
theorem dX8_loses_91 : decode cX8_loses 91 = .ok (.goto 58, 3) := by decide +kernel
theorem dX8_loses_94 : decode cX8_loses 94 = .ok (.iload_n 2, 1) := by decide +kernel
theorem dX8_loses_95 : decode cX8_loses 95 = .ok (.bipush 100, 2) := by decide +kernel
theorem dX8_loses_97 : decode cX8_loses 97 = .ok (.if_icmp .lt 52, 3) := by decide +kernel
theorem dX8_loses_100 : decode cX8_loses 100 = .ok (.aload_n 0, 1) := by decide +kernel
theorem dX8_loses_101 : decode cX8_loses 101 = .ok (.getfield 90, 3) := by decide +kernel
theorem dX8_loses_104 : decode cX8_loses 104 = .ok (.iload_n 1, 1) := by decide +kernel
theorem dX8_loses_105 : decode cX8_loses 105 = .ok (.dup2, 1) := by decide +kernel
theorem dX8_loses_106 : decode cX8_loses 106 = .ok (.iaload, 1) := by decide +kernel
theorem dX8_loses_107 : decode cX8_loses 107 = .ok (.iconst 1, 1) := by decide +kernel
theorem dX8_loses_108 : decode cX8_loses 108 = .ok (.isub, 1) := by decide +kernel
theorem dX8_loses_109 : decode cX8_loses 109 = .ok (.iastore, 1) := by decide +kernel
theorem dX8_loses_110 : decode cX8_loses 110 = .ok (.goto 39, 3) := by decide +kernel
theorem dX8_loses_113 : decode cX8_loses 113 = .ok (.aload_n 0, 1) := by decide +kernel
theorem dX8_loses_114 : decode cX8_loses 114 = .ok (.iload_n 2, 1) := by decide +kernel
theorem dX8_loses_115 : decode cX8_loses 115 = .ok (.bipush 60, 2) := by decide +kernel
theorem dX8_loses_117 : decode cX8_loses 117 = .ok (.isub, 1) := by decide +kernel
theorem dX8_loses_118 : decode cX8_loses 118 = .ok (.invokevirtual 246, 3) := by decide +kernel
theorem dX8_loses_121 : decode cX8_loses 121 = .ok (.istore_n 3, 1) := by decide +kernel
theorem dX8_loses_122 : decode cX8_loses 122 = .ok (.goto 27, 3) := by decide +kernel
theorem dX8_loses_125 : decode cX8_loses 125 = .ok (.aload_n 0, 1) := by decide +kernel
theorem dX8_loses_126 : decode cX8_loses 126 = .ok (.iload_n 2, 1) := by decide +kernel
theorem dX8_loses_127 : decode cX8_loses 127 = .ok (.invokevirtual 246, 3) := by decide +kernel
theorem dX8_loses_130 : decode cX8_loses 130 = .ok (.aload_n 0, 1) := by decide +kernel
theorem dX8_loses_131 : decode cX8_loses 131 = .ok (.getfield 93, 3) := by decide +kernel
theorem dX8_loses_134 : decode cX8_loses 134 = .ok (.iload_n 1, 1) := by decide +kernel
theorem dX8_loses_135 : decode cX8_loses 135 = .ok (.iaload, 1) := by decide +kernel
theorem dX8_loses_136 : decode cX8_loses 136 = .ok (.iconst 2, 1) := by decide +kernel
theorem dX8_loses_137 : decode cX8_loses 137 = .ok (.irem, 1) := by decide +kernel
theorem dX8_loses_138 : decode cX8_loses 138 = .ok (.iconst 1, 1) := by decide +kernel
theorem dX8_loses_139 : decode cX8_loses 139 = .ok (.if_icmp .ne 7, 3) := by decide +kernel
theorem dX8_loses_142 : decode cX8_loses 142 = .ok (.iconst 2, 1) := by decide +kernel
theorem dX8_loses_143 : decode cX8_loses 143 = .ok (.goto 4, 3) := by decide +kernel
theorem dX8_loses_146 : decode cX8_loses 146 = .ok (.iconst 1, 1) := by decide +kernel
theorem dX8_loses_147 : decode cX8_loses 147 = .ok (.imul, 1) := by decide +kernel
theorem dX8_loses_148 : decode cX8_loses 148 = .ok (.istore_n 3, 1) := by decide +kernel
theorem dX8_loses_149 : decode cX8_loses 149 = .ok (.iload_n 3, 1) := by decide +kernel
theorem dX8_loses_150 : decode cX8_loses 150 = .ok (.aload_n 0, 1) := by decide +kernel
theorem dX8_loses_151 : decode cX8_loses 151 = .ok (.getfield 87, 3) := by decide +kernel
theorem dX8_loses_154 : decode cX8_loses 154 = .ok (.iload_n 1, 1) := by decide +kernel
theorem dX8_loses_155 : decode cX8_loses 155 = .ok (.iaload, 1) := by decide +kernel
theorem dX8_loses_156 : decode cX8_loses 156 = .ok (.if_icmp .le 10, 3) := by decide +kernel
theorem dX8_loses_159 : decode cX8_loses 159 = .ok (.aload_n 0, 1) := by decide +kernel
theorem dX8_loses_160 : decode cX8_loses 160 = .ok (.getfield 87, 3) := by decide +kernel
theorem dX8_loses_163 : decode cX8_loses 163 = .ok (.iload_n 1, 1) := by decide +kernel
theorem dX8_loses_164 : decode cX8_loses 164 = .ok (.iaload, 1) := by decide +kernel
theorem dX8_loses_165 : decode cX8_loses 165 = .ok (.istore_n 3, 1) := by decide +kernel
theorem dX8_loses_166 : decode cX8_loses 166 = .ok (.aload_n 0, 1) := by decide +kernel
theorem dX8_loses_167 : decode cX8_loses 167 = .ok (.getfield 87, 3) := by decide +kernel
theorem dX8_loses_170 : decode cX8_loses 170 = .ok (.iload_n 1, 1) := by decide +kernel
theorem dX8_loses_171 : decode cX8_loses 171 = .ok (.dup2, 1) := by decide +kernel
theorem dX8_loses_172 : decode cX8_loses 172 = .ok (.iaload, 1) := by decide +kernel
theorem dX8_loses_173 : decode cX8_loses 173 = .ok (.iload_n 3, 1) := by decide +kernel
theorem dX8_loses_174 : decode cX8_loses 174 = .ok (.isub, 1) := by decide +kernel
theorem dX8_loses_175 : decode cX8_loses 175 = .ok (.iastore, 1) := by decide +kernel
theorem dX8_loses_176 : decode cX8_loses 176 = .ok (.iload_n 3, 1) := by decide +kernel
theorem dX8_loses_177 : decode cX8_loses 177 = .ok (.ireturn, 1) := by decide +kernel
theorem dX8_lives_0 : decode cX8_lives 0 = .ok (.aload_n 0, 1) := by decide +kernel
theorem dX8_lives_1 : decode cX8_lives 1 = .ok (.getfield 53, 3) := by decide +kernel
theorem dX8_lives_4 : decode cX8_lives 4 = .ok (.iload_n 1, 1) := by decide +kernel
theorem dX8_lives_5 : decode cX8_lives 5 = .ok (.iaload, 1) := by decide +kernel
theorem dX8_lives_6 : decode cX8_lives 6 = .ok (.ifCond .ne 10, 3) := by decide +kernel
theorem dX8_lives_9 : decode cX8_lives 9 = .ok (.aload_n 0, 1) := by decide +kernel
theorem dX8_lives_10 : decode cX8_lives 10 = .ok (.iload_n 1, 1) := by decide +kernel
theorem dX8_lives_11 : decode cX8_lives 11 = .ok (.iload_n 2, 1) := by decide +kernel
theorem dX8_lives_12 : decode cX8_lives 12 = .ok (.iload_n 3, 1) := by decide +kernel
theorem dX8_lives_13 : decode cX8_lives 13 = .ok (.invokevirtual 249, 3) := by decide +kernel
theorem dX8_lives_16 : decode cX8_lives 16 = .ok (.iconst 0, 1) := by decide +kernel
theorem dX8_lives_17 : decode cX8_lives 17 = .ok (.istore 4, 2) := by decide +kernel
theorem dX8_lives_19 : decode cX8_lives 19 = .ok (.iconst 0, 1) := by decide +kernel
theorem dX8_lives_20 : decode cX8_lives 20 = .ok (.istore 5, 2) := by decide +kernel
theorem dX8_lives_22 : decode cX8_lives 22 = .ok (.iload 5, 2) := by decide +kernel
theorem dX8_lives_24 : decode cX8_lives 24 = .ok (.iconst 4, 1) := by decide +kernel
theorem dX8_lives_25 : decode cX8_lives 25 = .ok (.if_icmp .ge 39, 3) := by decide +kernel
theorem dX8_lives_28 : decode cX8_lives 28 = .ok (.aload_n 0, 1) := by decide +kernel
theorem dX8_lives_29 : decode cX8_lives 29 = .ok (.getfield 78, 3) := by decide +kernel
theorem dX8_lives_32 : decode cX8_lives 32 = .ok (.iconst 4, 1) := by decide +kernel
theorem dX8_lives_33 : decode cX8_lives 33 = .ok (.iload_n 1, 1) := by decide +kernel
theorem dX8_lives_34 : decode cX8_lives 34 = .ok (.imul, 1) := by decide +kernel
theorem dX8_lives_35 : decode cX8_lives 35 = .ok (.iload 5, 2) := by decide +kernel
theorem dX8_lives_37 : decode cX8_lives 37 = .ok (.iadd, 1) := by decide +kernel
theorem dX8_lives_38 : decode cX8_lives 38 = .ok (.iaload, 1) := by decide +kernel
theorem dX8_lives_39 : decode cX8_lives 39 = .ok (.ifCond .le 19, 3) := by decide +kernel
theorem dX8_lives_42 : decode cX8_lives 42 = .ok (.iload 4, 2) := by decide +kernel
theorem dX8_lives_44 : decode cX8_lives 44 = .ok (.aload_n 0, 1) := by decide +kernel
theorem dX8_lives_45 : decode cX8_lives 45 = .ok (.getfield 78, 3) := by decide +kernel
theorem dX8_lives_48 : decode cX8_lives 48 = .ok (.iconst 4, 1) := by decide +kernel
theorem dX8_lives_49 : decode cX8_lives 49 = .ok (.iload_n 1, 1) := by decide +kernel
theorem dX8_lives_50 : decode cX8_lives 50 = .ok (.imul, 1) := by decide +kernel
theorem dX8_lives_51 : decode cX8_lives 51 = .ok (.iload 5, 2) := by decide +kernel
theorem dX8_lives_53 : decode cX8_lives 53 = .ok (.iadd, 1) := by decide +kernel
theorem dX8_lives_54 : decode cX8_lives 54 = .ok (.iaload, 1) := by decide +kernel
theorem dX8_lives_55 : decode cX8_lives 55 = .ok (.iadd, 1) := by decide +kernel
theorem dX8_lives_56 : decode cX8_lives 56 = .ok (.istore 4, 2) := by decide +kernel
theorem dX8_lives_58 : decode cX8_lives 58 = .ok (.iinc 5 1, 3) := by decide +kernel
theorem dX8_lives_61 : decode cX8_lives 61 = .ok (.goto (-39), 3) := by decide +kernel
theorem dX8_lives_64 : decode cX8_lives 64 = .ok (.iload 4, 2) := by decide +kernel
theorem dX8_lives_66 : decode cX8_lives 66 = .ok (.bipush 100, 2) := by decide +kernel
theorem dX8_lives_68 : decode cX8_lives 68 = .ok (.idiv, 1) := by decide +kernel
theorem dX8_lives_69 : decode cX8_lives 69 = .ok (.istore 4, 2) := by decide +kernel
theorem dX8_lives_71 : decode cX8_lives 71 = .ok (.iload 4, 2) := by decide +kernel
theorem dX8_lives_73 : decode cX8_lives 73 = .ok (.aload_n 0, 1) := by decide +kernel
theorem dX8_lives_74 : decode cX8_lives 74 = .ok (.getfield 41, 3) := by decide +kernel
theorem dX8_lives_77 : decode cX8_lives 77 = .ok (.iload_n 1, 1) := by decide +kernel
theorem dX8_lives_78 : decode cX8_lives 78 = .ok (.iaload, 1) := by decide +kernel
theorem dX8_lives_79 : decode cX8_lives 79 = .ok (.if_icmp .le 11, 3) := by decide +kernel
theorem dX8_lives_82 : decode cX8_lives 82 = .ok (.aload_n 0, 1) := by decide +kernel
theorem dX8_lives_83 : decode cX8_lives 83 = .ok (.getfield 41, 3) := by decide +kernel
theorem dX8_lives_86 : decode cX8_lives 86 = .ok (.iload_n 1, 1) := by decide +kernel
theorem dX8_lives_87 : decode cX8_lives 87 = .ok (.iaload, 1) := by decide +kernel
theorem dX8_lives_88 : decode cX8_lives 88 = .ok (.istore 4, 2) := by decide +kernel
theorem dX8_lives_90 : decode cX8_lives 90 = .ok (.aload_n 0, 1) := by decide +kernel
theorem dX8_lives_91 : decode cX8_lives 91 = .ok (.getfield 41, 3) := by decide +kernel
theorem dX8_lives_94 : decode cX8_lives 94 = .ok (.iload_n 1, 1) := by decide +kernel
theorem dX8_lives_95 : decode cX8_lives 95 = .ok (.dup2, 1) := by decide +kernel
theorem dX8_lives_96 : decode cX8_lives 96 = .ok (.iaload, 1) := by decide +kernel
theorem dX8_lives_97 : decode cX8_lives 97 = .ok (.iload 4, 2) := by decide +kernel
theorem dX8_lives_99 : decode cX8_lives 99 = .ok (.isub, 1) := by decide +kernel
theorem dX8_lives_100 : decode cX8_lives 100 = .ok (.iastore, 1) := by decide +kernel
theorem dX8_lives_101 : decode cX8_lives 101 = .ok (.aload_n 0, 1) := by decide +kernel
theorem dX8_lives_102 : decode cX8_lives 102 = .ok (.dup, 1) := by decide +kernel
theorem dX8_lives_103 : decode cX8_lives 103 = .ok (.getfield 253, 3) := by decide +kernel
theorem dX8_lives_106 : decode cX8_lives 106 = .ok (.iload 4, 2) := by decide +kernel
theorem dX8_lives_108 : decode cX8_lives 108 = .ok (.iadd, 1) := by decide +kernel
theorem dX8_lives_109 : decode cX8_lives 109 = .ok (.putfield 253, 3) := by decide +kernel
theorem dX8_lives_112 : decode cX8_lives 112 = .ok (.aload_n 0, 1) := by decide +kernel
theorem dX8_lives_113 : decode cX8_lives 113 = .ok (.iload_n 1, 1) := by decide +kernel
theorem dX8_lives_114 : decode cX8_lives 114 = .ok (.iload_n 2, 1) := by decide +kernel
theorem dX8_lives_115 : decode cX8_lives 115 = .ok (.invokevirtual 239, 3) := by decide +kernel
theorem dX8_lives_118 : decode cX8_lives 118 = .ok (.istore 5, 2) := by decide +kernel
theorem dX8_lives_120 : decode cX8_lives 120 = .ok (.iconst 0, 1) := by decide +kernel
theorem dX8_lives_121 : decode cX8_lives 121 = .ok (.istore 6, 2) := by decide +kernel
theorem dX8_lives_123 : decode cX8_lives 123 = .ok (.iconst 0, 1) := by decide +kernel
theorem dX8_lives_124 : decode cX8_lives 124 = .ok (.istore 7, 2) := by decide +kernel
theorem dX8_lives_126 : decode cX8_lives 126 = .ok (.iload 7, 2) := by decide +kernel
theorem dX8_lives_128 : decode cX8_lives 128 = .ok (.iconst 4, 1) := by decide +kernel
theorem dX8_lives_129 : decode cX8_lives 129 = .ok (.if_icmp .ge 106, 3) := by decide +kernel
theorem dX8_lives_132 : decode cX8_lives 132 = .ok (.iconst 4, 1) := by decide +kernel
theorem dX8_lives_133 : decode cX8_lives 133 = .ok (.iload_n 1, 1) := by decide +kernel
theorem dX8_lives_134 : decode cX8_lives 134 = .ok (.imul, 1) := by decide +kernel
theorem dX8_lives_135 : decode cX8_lives 135 = .ok (.iload 7, 2) := by decide +kernel
theorem dX8_lives_137 : decode cX8_lives 137 = .ok (.iadd, 1) := by decide +kernel
theorem dX8_lives_138 : decode cX8_lives 138 = .ok (.istore 8, 2) := by decide +kernel
theorem dX8_lives_140 : decode cX8_lives 140 = .ok (.aload_n 0, 1) := by decide +kernel
theorem dX8_lives_141 : decode cX8_lives 141 = .ok (.getfield 78, 3) := by decide +kernel
theorem dX8_lives_144 : decode cX8_lives 144 = .ok (.iload 8, 2) := by decide +kernel
theorem dX8_lives_146 : decode cX8_lives 146 = .ok (.dup2, 1) := by decide +kernel
theorem dX8_lives_147 : decode cX8_lives 147 = .ok (.iaload, 1) := by decide +kernel
theorem dX8_lives_148 : decode cX8_lives 148 = .ok (.iload 5, 2) := by decide +kernel
theorem dX8_lives_150 : decode cX8_lives 150 = .ok (.aload_n 0, 1) := by decide +kernel
theorem dX8_lives_151 : decode cX8_lives 151 = .ok (.getfield 78, 3) := by decide +kernel
theorem dX8_lives_154 : decode cX8_lives 154 = .ok (.iload 8, 2) := by decide +kernel
theorem dX8_lives_156 : decode cX8_lives 156 = .ok (.iaload, 1) := by decide +kernel
theorem dX8_lives_157 : decode cX8_lives 157 = .ok (.isub, 1) := by decide +kernel
theorem dX8_lives_158 : decode cX8_lives 158 = .ok (.aload_n 0, 1) := by decide +kernel
theorem dX8_lives_159 : decode cX8_lives 159 = .ok (.getfield 38, 3) := by decide +kernel
theorem dX8_lives_162 : decode cX8_lives 162 = .ok (.iload_n 1, 1) := by decide +kernel
theorem dX8_lives_163 : decode cX8_lives 163 = .ok (.iaload, 1) := by decide +kernel
theorem dX8_lives_164 : decode cX8_lives 164 = .ok (.bipush 15, 2) := by decide +kernel
theorem dX8_lives_166 : decode cX8_lives 166 = .ok (.aload_n 0, 1) := by decide +kernel
theorem dX8_lives_167 : decode cX8_lives 167 = .ok (.getfield 44, 3) := by decide +kernel
theorem dX8_lives_170 : decode cX8_lives 170 = .ok (.iload_n 1, 1) := by decide +kernel
theorem dX8_lives_171 : decode cX8_lives 171 = .ok (.iaload, 1) := by decide +kernel
theorem dX8_lives_172 : decode cX8_lives 172 = .ok (.imul, 1) := by decide +kernel
theorem dX8_lives_173 : decode cX8_lives 173 = .ok (.iadd, 1) := by decide +kernel
theorem dX8_lives_174 : decode cX8_lives 174 = .ok (.imul, 1) := by decide +kernel
theorem dX8_lives_175 : decode cX8_lives 175 = .ok (.bipush 100, 2) := by decide +kernel
theorem dX8_lives_177 : decode cX8_lives 177 = .ok (.idiv, 1) := by decide +kernel
theorem dX8_lives_178 : decode cX8_lives 178 = .ok (.iadd, 1) := by decide +kernel
theorem dX8_lives_179 : decode cX8_lives 179 = .ok (.iastore, 1) := by decide +kernel
theorem dX8_lives_180 : decode cX8_lives 180 = .ok (.aload_n 0, 1) := by decide +kernel
theorem dX8_lives_181 : decode cX8_lives 181 = .ok (.getfield 78, 3) := by decide +kernel
theorem dX8_lives_184 : decode cX8_lives 184 = .ok (.iload 8, 2) := by decide +kernel
theorem dX8_lives_186 : decode cX8_lives 186 = .ok (.dup2, 1) := by decide +kernel
theorem dX8_lives_187 : decode cX8_lives 187 = .ok (.iaload, 1) := by decide +kernel
theorem dX8_lives_188 : decode cX8_lives 188 = .ok (.iload 4, 2) := by decide +kernel
theorem dX8_lives_190 : decode cX8_lives 190 = .ok (.iconst 4, 1) := by decide +kernel
theorem dX8_lives_191 : decode cX8_lives 191 = .ok (.iload 7, 2) := by decide +kernel
theorem dX8_lives_193 : decode cX8_lives 193 = .ok (.isub, 1) := by decide +kernel
theorem dX8_lives_194 : decode cX8_lives 194 = .ok (.imul, 1) := by decide +kernel
theorem dX8_lives_195 : decode cX8_lives 195 = .ok (.iconst 2, 1) := by decide +kernel
theorem dX8_lives_196 : decode cX8_lives 196 = .ok (.idiv, 1) := by decide +kernel
theorem dX8_lives_197 : decode cX8_lives 197 = .ok (.isub, 1) := by decide +kernel
theorem dX8_lives_198 : decode cX8_lives 198 = .ok (.iastore, 1) := by decide +kernel
theorem dX8_lives_199 : decode cX8_lives 199 = .ok (.aload_n 0, 1) := by decide +kernel
theorem dX8_lives_200 : decode cX8_lives 200 = .ok (.getfield 81, 3) := by decide +kernel
theorem dX8_lives_203 : decode cX8_lives 203 = .ok (.iload 8, 2) := by decide +kernel
theorem dX8_lives_205 : decode cX8_lives 205 = .ok (.iaload, 1) := by decide +kernel
theorem dX8_lives_206 : decode cX8_lives 206 = .ok (.iconst (-1), 1) := by decide +kernel
theorem dX8_lives_207 : decode cX8_lives 207 = .ok (.if_icmp .eq 22, 3) := by decide +kernel
theorem dX8_lives_210 : decode cX8_lives 210 = .ok (.iload 6, 2) := by decide +kernel
theorem dX8_lives_212 : decode cX8_lives 212 = .ok (.aload_n 0, 1) := by decide +kernel
theorem dX8_lives_213 : decode cX8_lives 213 = .ok (.iload 8, 2) := by decide +kernel
theorem dX8_lives_215 : decode cX8_lives 215 = .ok (.invokevirtual 256, 3) := by decide +kernel
theorem dX8_lives_218 : decode cX8_lives 218 = .ok (.aload_n 0, 1) := by decide +kernel
theorem dX8_lives_219 : decode cX8_lives 219 = .ok (.getfield 84, 3) := by decide +kernel
theorem dX8_lives_222 : decode cX8_lives 222 = .ok (.iload 8, 2) := by decide +kernel
theorem dX8_lives_224 : decode cX8_lives 224 = .ok (.iaload, 1) := by decide +kernel
theorem dX8_lives_225 : decode cX8_lives 225 = .ok (.imul, 1) := by decide +kernel
theorem dX8_lives_226 : decode cX8_lives 226 = .ok (.iadd, 1) := by decide +kernel
theorem dX8_lives_227 : decode cX8_lives 227 = .ok (.istore 6, 2) := by decide +kernel
theorem dX8_lives_229 : decode cX8_lives 229 = .ok (.iinc 7 1, 3) := by decide +kernel
theorem dX8_lives_232 : decode cX8_lives 232 = .ok (.goto (-106), 3) := by decide +kernel
theorem dX8_lives_235 : decode cX8_lives 235 = .ok (.aload_n 0, 1) := by decide +kernel
theorem dX8_lives_236 : decode cX8_lives 236 = .ok (.getfield 72, 3) := by decide +kernel
theorem dX8_lives_239 : decode cX8_lives 239 = .ok (.iload_n 1, 1) := by decide +kernel
theorem dX8_lives_240 : decode cX8_lives 240 = .ok (.baload, 1) := by decide +kernel
theorem dX8_lives_241 : decode cX8_lives 241 = .ok (.ifCond .eq 57, 3) := by decide +kernel
theorem dX8_lives_244 : decode cX8_lives 244 = .ok (.aload_n 0, 1) := by decide +kernel
theorem dX8_lives_245 : decode cX8_lives 245 = .ok (.getfield 75, 3) := by decide +kernel
theorem dX8_lives_248 : decode cX8_lives 248 = .ok (.iconst 3, 1) := by decide +kernel
theorem dX8_lives_249 : decode cX8_lives 249 = .ok (.iload_n 1, 1) := by decide +kernel
theorem dX8_lives_250 : decode cX8_lives 250 = .ok (.imul, 1) := by decide +kernel
theorem dX8_lives_251 : decode cX8_lives 251 = .ok (.aload_n 0, 1) := by decide +kernel
theorem dX8_lives_252 : decode cX8_lives 252 = .ok (.getfield 65, 3) := by decide +kernel
theorem dX8_lives_255 : decode cX8_lives 255 = .ok (.iload_n 1, 1) := by decide +kernel
theorem dX8_lives_256 : decode cX8_lives 256 = .ok (.iaload, 1) := by decide +kernel
theorem dX8_lives_257 : decode cX8_lives 257 = .ok (.ifCond .le 7, 3) := by decide +kernel
theorem dX8_lives_260 : decode cX8_lives 260 = .ok (.iconst 0, 1) := by decide +kernel
theorem dX8_lives_261 : decode cX8_lives 261 = .ok (.goto 26, 3) := by decide +kernel
theorem dX8_lives_264 : decode cX8_lives 264 = .ok (.aload_n 0, 1) := by decide +kernel
theorem dX8_lives_265 : decode cX8_lives 265 = .ok (.getfield 53, 3) := by decide +kernel
theorem dX8_lives_268 : decode cX8_lives 268 = .ok (.iload_n 1, 1) := by decide +kernel
theorem dX8_lives_269 : decode cX8_lives 269 = .ok (.iaload, 1) := by decide +kernel
theorem dX8_lives_270 : decode cX8_lives 270 = .ok (.ifCond .ne 16, 3) := by decide +kernel
theorem dX8_lives_273 : decode cX8_lives 273 = .ok (.aload_n 0, 1) := by decide +kernel
theorem dX8_lives_274 : decode cX8_lives 274 = .ok (.getfield 59, 3) := by decide +kernel
theorem dX8_lives_277 : decode cX8_lives 277 = .ok (.iload_n 1, 1) := by decide +kernel
theorem dX8_lives_278 : decode cX8_lives 278 = .ok (.iaload, 1) := by decide +kernel
theorem dX8_lives_279 : decode cX8_lives 279 = .ok (.ifCond .le 7, 3) := by decide +kernel
theorem dX8_lives_282 : decode cX8_lives 282 = .ok (.iconst 1, 1) := by decide +kernel
theorem dX8_lives_283 : decode cX8_lives 283 = .ok (.goto 4, 3) := by decide +kernel
theorem dX8_lives_286 : decode cX8_lives 286 = .ok (.iconst 2, 1) := by decide +kernel
theorem dX8_lives_287 : decode cX8_lives 287 = .ok (.iadd, 1) := by decide +kernel
theorem dX8_lives_288 : decode cX8_lives 288 = .ok (.dup2, 1) := by decide +kernel
theorem dX8_lives_289 : decode cX8_lives 289 = .ok (.iaload, 1) := by decide +kernel
theorem dX8_lives_290 : decode cX8_lives 290 = .ok (.iload 6, 2) := by decide +kernel
theorem dX8_lives_292 : decode cX8_lives 292 = .ok (.sipush 1000, 3) := by decide +kernel
theorem dX8_lives_295 : decode cX8_lives 295 = .ok (.idiv, 1) := by decide +kernel
theorem dX8_lives_296 : decode cX8_lives 296 = .ok (.iadd, 1) := by decide +kernel
theorem dX8_lives_297 : decode cX8_lives 297 = .ok (.iastore, 1) := by decide +kernel
theorem dX8_lives_298 : decode cX8_lives 298 = .ok (.aload_n 0, 1) := by decide +kernel
theorem dX8_lives_299 : decode cX8_lives 299 = .ok (.getfield 56, 3) := by decide +kernel
theorem dX8_lives_302 : decode cX8_lives 302 = .ok (.iload_n 1, 1) := by decide +kernel
theorem dX8_lives_303 : decode cX8_lives 303 = .ok (.iaload, 1) := by decide +kernel
theorem dX8_lives_304 : decode cX8_lives 304 = .ok (.iconst (-1), 1) := by decide +kernel
theorem dX8_lives_305 : decode cX8_lives 305 = .ok (.if_icmp .ne 5, 3) := by decide +kernel
theorem dX8_lives_308 : decode cX8_lives 308 = .ok (.iconst 0, 1) := by decide +kernel
theorem dX8_lives_309 : decode cX8_lives 309 = .ok (.ireturn, 1) := by decide +kernel
theorem dX8_lives_310 : decode cX8_lives 310 = .ok (.aload_n 0, 1) := by decide +kernel
theorem dX8_lives_311 : decode cX8_lives 311 = .ok (.getfield 53, 3) := by decide +kernel
theorem dX8_lives_314 : decode cX8_lives 314 = .ok (.iload_n 1, 1) := by decide +kernel
theorem dX8_lives_315 : decode cX8_lives 315 = .ok (.iaload, 1) := by decide +kernel
theorem dX8_lives_316 : decode cX8_lives 316 = .ok (.ifCond .ne 107, 3) := by decide +kernel
theorem dX8_lives_319 : decode cX8_lives 319 = .ok (.aload_n 0, 1) := by decide +kernel
theorem dX8_lives_320 : decode cX8_lives 320 = .ok (.getfield 59, 3) := by decide +kernel
theorem dX8_lives_323 : decode cX8_lives 323 = .ok (.iload_n 1, 1) := by decide +kernel
theorem dX8_lives_324 : decode cX8_lives 324 = .ok (.iaload, 1) := by decide +kernel
theorem dX8_lives_325 : decode cX8_lives 325 = .ok (.ifCond .le 15, 3) := by decide +kernel
theorem dX8_lives_328 : decode cX8_lives 328 = .ok (.aload_n 0, 1) := by decide +kernel
theorem dX8_lives_329 : decode cX8_lives 329 = .ok (.getfield 59, 3) := by decide +kernel
theorem dX8_lives_332 : decode cX8_lives 332 = .ok (.iload_n 1, 1) := by decide +kernel
theorem dX8_lives_333 : decode cX8_lives 333 = .ok (.dup2, 1) := by decide +kernel
theorem dX8_lives_334 : decode cX8_lives 334 = .ok (.iaload, 1) := by decide +kernel
theorem dX8_lives_335 : decode cX8_lives 335 = .ok (.iconst 1, 1) := by decide +kernel
theorem dX8_lives_336 : decode cX8_lives 336 = .ok (.isub, 1) := by decide +kernel
theorem dX8_lives_337 : decode cX8_lives 337 = .ok (.iastore, 1) := by decide +kernel
theorem dX8_lives_338 : decode cX8_lives 338 = .ok (.iconst 0, 1) := by decide +kernel
theorem dX8_lives_339 : decode cX8_lives 339 = .ok (.ireturn, 1) := by decide +kernel
theorem dX8_lives_340 : decode cX8_lives 340 = .ok (.aload_n 0, 1) := by decide +kernel
theorem dX8_lives_341 : decode cX8_lives 341 = .ok (.getfield 50, 3) := by decide +kernel
theorem dX8_lives_344 : decode cX8_lives 344 = .ok (.iload_n 1, 1) := by decide +kernel
theorem dX8_lives_345 : decode cX8_lives 345 = .ok (.aload_n 0, 1) := by decide +kernel
theorem dX8_lives_346 : decode cX8_lives 346 = .ok (.getfield 56, 3) := by decide +kernel
theorem dX8_lives_349 : decode cX8_lives 349 = .ok (.iload_n 1, 1) := by decide +kernel
theorem dX8_lives_350 : decode cX8_lives 350 = .ok (.iaload, 1) := by decide +kernel
theorem dX8_lives_351 : decode cX8_lives 351 = .ok (.aload_n 0, 1) := by decide +kernel
theorem dX8_lives_352 : decode cX8_lives 352 = .ok (.getfield 47, 3) := by decide +kernel
theorem dX8_lives_355 : decode cX8_lives 355 = .ok (.iload_n 1, 1) := by decide +kernel
theorem dX8_lives_356 : decode cX8_lives 356 = .ok (.iaload, 1) := by decide +kernel
theorem dX8_lives_357 : decode cX8_lives 357 = .ok (.if_icmp .le 14, 3) := by decide +kernel
theorem dX8_lives_360 : decode cX8_lives 360 = .ok (.aload_n 0, 1) := by decide +kernel
theorem dX8_lives_361 : decode cX8_lives 361 = .ok (.getfield 47, 3) := by decide +kernel
theorem dX8_lives_364 : decode cX8_lives 364 = .ok (.iload_n 1, 1) := by decide +kernel
theorem dX8_lives_365 : decode cX8_lives 365 = .ok (.iaload, 1) := by decide +kernel
theorem dX8_lives_366 : decode cX8_lives 366 = .ok (.iconst 1, 1) := by decide +kernel
theorem dX8_lives_367 : decode cX8_lives 367 = .ok (.iadd, 1) := by decide +kernel
theorem dX8_lives_368 : decode cX8_lives 368 = .ok (.goto 11, 3) := by decide +kernel
theorem dX8_lives_371 : decode cX8_lives 371 = .ok (.aload_n 0, 1) := by decide +kernel
theorem dX8_lives_372 : decode cX8_lives 372 = .ok (.getfield 47, 3) := by decide +kernel
theorem dX8_lives_375 : decode cX8_lives 375 = .ok (.iload_n 1, 1) := by decide +kernel
theorem dX8_lives_376 : decode cX8_lives 376 = .ok (.iaload, 1) := by decide +kernel
theorem dX8_lives_377 : decode cX8_lives 377 = .ok (.iconst 1, 1) := by decide +kernel
theorem dX8_lives_378 : decode cX8_lives 378 = .ok (.isub, 1) := by decide +kernel
theorem dX8_lives_379 : decode cX8_lives 379 = .ok (.iastore, 1) := by decide +kernel
theorem dX8_lives_380 : decode cX8_lives 380 = .ok (.aload_n 0, 1) := by decide +kernel
theorem dX8_lives_381 : decode cX8_lives 381 = .ok (.getfield 53, 3) := by decide +kernel
theorem dX8_lives_384 : decode cX8_lives 384 = .ok (.iload_n 1, 1) := by decide +kernel
theorem dX8_lives_385 : decode cX8_lives 385 = .ok (.aload_n 0, 1) := by decide +kernel
theorem dX8_lives_386 : decode cX8_lives 386 = .ok (.getfield 13, 3) := by decide +kernel
theorem dX8_lives_389 : decode cX8_lives 389 = .ok (.aload_n 0, 1) := by decide +kernel
theorem dX8_lives_390 : decode cX8_lives 390 = .ok (.getfield 50, 3) := by decide +kernel
theorem dX8_lives_393 : decode cX8_lives 393 = .ok (.iload_n 1, 1) := by decide +kernel
theorem dX8_lives_394 : decode cX8_lives 394 = .ok (.iaload, 1) := by decide +kernel
theorem dX8_lives_395 : decode cX8_lives 395 = .ok (.aload_n 0, 1) := by decide +kernel
theorem dX8_lives_396 : decode cX8_lives 396 = .ok (.getfield 47, 3) := by decide +kernel
theorem dX8_lives_399 : decode cX8_lives 399 = .ok (.iload_n 1, 1) := by decide +kernel
theorem dX8_lives_400 : decode cX8_lives 400 = .ok (.iaload, 1) := by decide +kernel
theorem dX8_lives_401 : decode cX8_lives 401 = .ok (.if_icmp .ge 12, 3) := by decide +kernel
theorem dX8_lives_404 : decode cX8_lives 404 = .ok (.aload_n 0, 1) := by decide +kernel
theorem dX8_lives_405 : decode cX8_lives 405 = .ok (.getfield 50, 3) := by decide +kernel
theorem dX8_lives_408 : decode cX8_lives 408 = .ok (.iload_n 1, 1) := by decide +kernel
theorem dX8_lives_409 : decode cX8_lives 409 = .ok (.iaload, 1) := by decide +kernel
theorem dX8_lives_410 : decode cX8_lives 410 = .ok (.goto 9, 3) := by decide +kernel
theorem dX8_lives_413 : decode cX8_lives 413 = .ok (.aload_n 0, 1) := by decide +kernel
theorem dX8_lives_414 : decode cX8_lives 414 = .ok (.getfield 47, 3) := by decide +kernel
theorem dX8_lives_417 : decode cX8_lives 417 = .ok (.iload_n 1, 1) := by decide +kernel
theorem dX8_lives_418 : decode cX8_lives 418 = .ok (.iaload, 1) := by decide +kernel
theorem dX8_lives_419 : decode cX8_lives 419 = .ok (.iaload, 1) := by decide +kernel
theorem dX8_lives_420 : decode cX8_lives 420 = .ok (.iastore, 1) := by decide +kernel
theorem dX8_lives_421 : decode cX8_lives 421 = .ok (.iconst 0, 1) := by decide +kernel
theorem dX8_lives_422 : decode cX8_lives 422 = .ok (.ireturn, 1) := by decide +kernel
theorem dX8_lives_423 : decode cX8_lives 423 = .ok (.aload_n 0, 1) := by decide +kernel
theorem dX8_lives_424 : decode cX8_lives 424 = .ok (.getfield 53, 3) := by decide +kernel
theorem dX8_lives_427 : decode cX8_lives 427 = .ok (.iload_n 1, 1) := by decide +kernel
theorem dX8_lives_428 : decode cX8_lives 428 = .ok (.dup2, 1) := by decide +kernel
theorem dX8_lives_429 : decode cX8_lives 429 = .ok (.iaload, 1) := by decide +kernel
theorem dX8_lives_430 : decode cX8_lives 430 = .ok (.iconst 1, 1) := by decide +kernel
theorem dX8_lives_431 : decode cX8_lives 431 = .ok (.isub, 1) := by decide +kernel
theorem dX8_lives_432 : decode cX8_lives 432 = .ok (.iastore, 1) := by decide +kernel
theorem dX8_lives_433 : decode cX8_lives 433 = .ok (.aload_n 0, 1) := by decide +kernel
theorem dX8_lives_434 : decode cX8_lives 434 = .ok (.getfield 53, 3) := by decide +kernel
theorem dX8_lives_437 : decode cX8_lives 437 = .ok (.iload_n 1, 1) := by decide +kernel
theorem dX8_lives_438 : decode cX8_lives 438 = .ok (.iaload, 1) := by decide +kernel
theorem dX8_lives_439 : decode cX8_lives 439 = .ok (.ifCond .le 5, 3) := by decide +kernel
theorem dX8_lives_442 : decode cX8_lives 442 = .ok (.iconst 0, 1) := by decide +kernel
theorem dX8_lives_443 : decode cX8_lives 443 = .ok (.ireturn, 1) := by decide +kernel
theorem dX8_lives_444 : decode cX8_lives 444 = .ok (.aload_n 0, 1) := by decide +kernel
theorem dX8_lives_445 : decode cX8_lives 445 = .ok (.getfield 47, 3) := by decide +kernel
theorem dX8_lives_448 : decode cX8_lives 448 = .ok (.iload_n 1, 1) := by decide +kernel
theorem dX8_lives_449 : decode cX8_lives 449 = .ok (.aload_n 0, 1) := by decide +kernel
theorem dX8_lives_450 : decode cX8_lives 450 = .ok (.getfield 50, 3) := by decide +kernel
theorem dX8_lives_453 : decode cX8_lives 453 = .ok (.iload_n 1, 1) := by decide +kernel
theorem dX8_lives_454 : decode cX8_lives 454 = .ok (.iaload, 1) := by decide +kernel
theorem dX8_lives_455 : decode cX8_lives 455 = .ok (.iastore, 1) := by decide +kernel
theorem dX8_lives_456 : decode cX8_lives 456 = .ok (.aload_n 0, 1) := by decide +kernel
theorem dX8_lives_457 : decode cX8_lives 457 = .ok (.getfield 47, 3) := by decide +kernel
theorem dX8_lives_460 : decode cX8_lives 460 = .ok (.iload_n 1, 1) := by decide +kernel
theorem dX8_lives_461 : decode cX8_lives 461 = .ok (.iaload, 1) := by decide +kernel
theorem dX8_lives_462 : decode cX8_lives 462 = .ok (.aload_n 0, 1) := by decide +kernel
theorem dX8_lives_463 : decode cX8_lives 463 = .ok (.getfield 56, 3) := by decide +kernel
theorem dX8_lives_466 : decode cX8_lives 466 = .ok (.iload_n 1, 1) := by decide +kernel
theorem dX8_lives_467 : decode cX8_lives 467 = .ok (.iaload, 1) := by decide +kernel
theorem dX8_lives_468 : decode cX8_lives 468 = .ok (.if_icmp .ne 19, 3) := by decide +kernel
theorem dX8_lives_471 : decode cX8_lives 471 = .ok (.aload_n 0, 1) := by decide +kernel
theorem dX8_lives_472 : decode cX8_lives 472 = .ok (.getfield 56, 3) := by decide +kernel
theorem dX8_lives_475 : decode cX8_lives 475 = .ok (.iload_n 1, 1) := by decide +kernel
theorem dX8_lives_476 : decode cX8_lives 476 = .ok (.iconst (-1), 1) := by decide +kernel
theorem dX8_lives_477 : decode cX8_lives 477 = .ok (.iastore, 1) := by decide +kernel
theorem dX8_lives_478 : decode cX8_lives 478 = .ok (.aload_n 0, 1) := by decide +kernel
theorem dX8_lives_479 : decode cX8_lives 479 = .ok (.getfield 68, 3) := by decide +kernel
theorem dX8_lives_482 : decode cX8_lives 482 = .ok (.iload_n 1, 1) := by decide +kernel
theorem dX8_lives_483 : decode cX8_lives 483 = .ok (.iconst 1, 1) := by decide +kernel
theorem dX8_lives_484 : decode cX8_lives 484 = .ok (.bastore, 1) := by decide +kernel
theorem dX8_lives_485 : decode cX8_lives 485 = .ok (.iconst 1, 1) := by decide +kernel
theorem dX8_lives_486 : decode cX8_lives 486 = .ok (.ireturn, 1) := by decide +kernel
theorem dX8_lives_487 : decode cX8_lives 487 = .ok (.aload_n 0, 1) := by decide +kernel
theorem dX8_lives_488 : decode cX8_lives 488 = .ok (.getfield 59, 3) := by decide +kernel
theorem dX8_lives_491 : decode cX8_lives 491 = .ok (.iload_n 1, 1) := by decide +kernel
theorem dX8_lives_492 : decode cX8_lives 492 = .ok (.aload_n 0, 1) := by decide +kernel
theorem dX8_lives_493 : decode cX8_lives 493 = .ok (.getfield 26, 3) := by decide +kernel
theorem dX8_lives_496 : decode cX8_lives 496 = .ok (.aload_n 0, 1) := by decide +kernel
theorem dX8_lives_497 : decode cX8_lives 497 = .ok (.getfield 47, 3) := by decide +kernel
theorem dX8_lives_500 : decode cX8_lives 500 = .ok (.iload_n 1, 1) := by decide +kernel
theorem dX8_lives_501 : decode cX8_lives 501 = .ok (.iaload, 1) := by decide +kernel
theorem dX8_lives_502 : decode cX8_lives 502 = .ok (.iaload, 1) := by decide +kernel
theorem dX8_lives_503 : decode cX8_lives 503 = .ok (.iastore, 1) := by decide +kernel
theorem dX8_lives_504 : decode cX8_lives 504 = .ok (.iconst 0, 1) := by decide +kernel
theorem dX8_lives_505 : decode cX8_lives 505 = .ok (.ireturn, 1) := by decide +kernel
theorem dX8_gangsRest_0 : decode cX8_gangsRest 0 = .ok (.iconst 0, 1) := by decide +kernel
theorem dX8_gangsRest_1 : decode cX8_gangsRest 1 = .ok (.istore_n 1, 1) := by decide +kernel
theorem dX8_gangsRest_2 : decode cX8_gangsRest 2 = .ok (.iload_n 1, 1) := by decide +kernel
theorem dX8_gangsRest_3 : decode cX8_gangsRest 3 = .ok (.bipush 8, 2) := by decide +kernel
theorem dX8_gangsRest_5 : decode cX8_gangsRest 5 = .ok (.if_icmp .ge 16, 3) := by decide +kernel
theorem dX8_gangsRest_8 : decode cX8_gangsRest 8 = .ok (.aload_n 0, 1) := by decide +kernel
theorem dX8_gangsRest_9 : decode cX8_gangsRest 9 = .ok (.getfield 29, 3) := by decide +kernel
theorem dX8_gangsRest_12 : decode cX8_gangsRest 12 = .ok (.iload_n 1, 1) := by decide +kernel
theorem dX8_gangsRest_13 : decode cX8_gangsRest 13 = .ok (.iconst 0, 1) := by decide +kernel
theorem dX8_gangsRest_14 : decode cX8_gangsRest 14 = .ok (.iastore, 1) := by decide +kernel
theorem dX8_gangsRest_15 : decode cX8_gangsRest 15 = .ok (.iinc 1 1, 3) := by decide +kernel
theorem dX8_gangsRest_18 : decode cX8_gangsRest 18 = .ok (.goto (-16), 3) := by decide +kernel
theorem dX8_gangsRest_21 : decode cX8_gangsRest 21 = .ok (.return_, 1) := by decide +kernel
theorem dX8_run_0 : decode cX8_run 0 = .ok (.iload_n 1, 1) := by decide +kernel
theorem dX8_run_1 : decode cX8_run 1 = .ok (.ifCond .ge 10, 3) := by decide +kernel
theorem dX8_run_4 : decode cX8_run 4 = .ok (.aload_n 0, 1) := by decide +kernel
theorem dX8_run_5 : decode cX8_run 5 = .ok (.bipush (-4), 2) := by decide +kernel
theorem dX8_run_7 : decode cX8_run 7 = .ok (.invokevirtual 148, 3) := by decide +kernel
theorem dX8_run_10 : decode cX8_run 10 = .ok (.ireturn, 1) := by decide +kernel
theorem dX8_run_11 : decode cX8_run 11 = .ok (.iload_n 1, 1) := by decide +kernel
theorem dX8_run_12 : decode cX8_run 12 = .ok (.iconst 1, 1) := by decide +kernel
theorem dX8_run_13 : decode cX8_run 13 = .ok (.if_icmp .lt 10, 3) := by decide +kernel
theorem dX8_run_16 : decode cX8_run 16 = .ok (.iload_n 1, 1) := by decide +kernel
theorem dX8_run_17 : decode cX8_run 17 = .ok (.sipush 200, 3) := by decide +kernel
theorem dX8_run_20 : decode cX8_run 20 = .ok (.if_icmp .le 10, 3) := by decide +kernel
theorem dX8_run_23 : decode cX8_run 23 = .ok (.aload_n 0, 1) := by decide +kernel
theorem dX8_run_24 : decode cX8_run 24 = .ok (.bipush (-7), 2) := by decide +kernel
theorem dX8_run_26 : decode cX8_run 26 = .ok (.invokevirtual 148, 3) := by decide +kernel
theorem dX8_run_29 : decode cX8_run 29 = .ok (.ireturn, 1) := by decide +kernel
theorem dX8_run_30 : decode cX8_run 30 = .ok (.iconst 0, 1) := by decide +kernel
theorem dX8_run_31 : decode cX8_run 31 = .ok (.istore_n 2, 1) := by decide +kernel
theorem dX8_run_32 : decode cX8_run 32 = .ok (.iconst 0, 1) := by decide +kernel
theorem dX8_run_33 : decode cX8_run 33 = .ok (.istore_n 3, 1) := by decide +kernel
theorem dX8_run_34 : decode cX8_run 34 = .ok (.iload_n 3, 1) := by decide +kernel
theorem dX8_run_35 : decode cX8_run 35 = .ok (.iload_n 1, 1) := by decide +kernel
theorem dX8_run_36 : decode cX8_run 36 = .ok (.if_icmp .ge 59, 3) := by decide +kernel
theorem dX8_run_39 : decode cX8_run 39 = .ok (.aload_n 0, 1) := by decide +kernel
theorem dX8_run_40 : decode cX8_run 40 = .ok (.invokevirtual 259, 3) := by decide +kernel
theorem dX8_run_43 : decode cX8_run 43 = .ok (.iconst 0, 1) := by decide +kernel
theorem dX8_run_44 : decode cX8_run 44 = .ok (.istore 4, 2) := by decide +kernel
theorem dX8_run_46 : decode cX8_run 46 = .ok (.iload 4, 2) := by decide +kernel
theorem dX8_run_48 : decode cX8_run 48 = .ok (.aload_n 0, 1) := by decide +kernel
theorem dX8_run_49 : decode cX8_run 49 = .ok (.getfield 145, 3) := by decide +kernel
theorem dX8_run_52 : decode cX8_run 52 = .ok (.if_icmp .ge 27, 3) := by decide +kernel
theorem dX8_run_55 : decode cX8_run 55 = .ok (.aload_n 0, 1) := by decide +kernel
theorem dX8_run_56 : decode cX8_run 56 = .ok (.iload 4, 2) := by decide +kernel
theorem dX8_run_58 : decode cX8_run 58 = .ok (.aload_n 0, 1) := by decide +kernel
theorem dX8_run_59 : decode cX8_run 59 = .ok (.getfield 262, 3) := by decide +kernel
theorem dX8_run_62 : decode cX8_run 62 = .ok (.iload 4, 2) := by decide +kernel
theorem dX8_run_64 : decode cX8_run 64 = .ok (.invokevirtual 265, 3) := by decide +kernel
theorem dX8_run_67 : decode cX8_run 67 = .ok (.ifCond .eq 6, 3) := by decide +kernel
theorem dX8_run_70 : decode cX8_run 70 = .ok (.iinc 2 1, 3) := by decide +kernel
theorem dX8_run_73 : decode cX8_run 73 = .ok (.iinc 4 1, 3) := by decide +kernel
theorem dX8_run_76 : decode cX8_run 76 = .ok (.goto (-30), 3) := by decide +kernel
theorem dX8_run_79 : decode cX8_run 79 = .ok (.aload_n 0, 1) := by decide +kernel
theorem dX8_run_80 : decode cX8_run 80 = .ok (.dup, 1) := by decide +kernel
theorem dX8_run_81 : decode cX8_run 81 = .ok (.getfield 262, 3) := by decide +kernel
theorem dX8_run_84 : decode cX8_run 84 = .ok (.iconst 1, 1) := by decide +kernel
theorem dX8_run_85 : decode cX8_run 85 = .ok (.iadd, 1) := by decide +kernel
theorem dX8_run_86 : decode cX8_run 86 = .ok (.putfield 262, 3) := by decide +kernel
theorem dX8_run_89 : decode cX8_run 89 = .ok (.iinc 3 1, 3) := by decide +kernel
theorem dX8_run_92 : decode cX8_run 92 = .ok (.goto (-58), 3) := by decide +kernel
theorem dX8_run_95 : decode cX8_run 95 = .ok (.aload_n 0, 1) := by decide +kernel
theorem dX8_run_96 : decode cX8_run 96 = .ok (.invokevirtual 259, 3) := by decide +kernel
theorem dX8_run_99 : decode cX8_run 99 = .ok (.iload_n 2, 1) := by decide +kernel
theorem dX8_run_100 : decode cX8_run 100 = .ok (.ireturn, 1) := by decide +kernel
theorem dX8_soldLately_0 : decode cX8_soldLately 0 = .ok (.iconst 0, 1) := by decide +kernel
theorem dX8_soldLately_1 : decode cX8_soldLately 1 = .ok (.istore_n 2, 1) := by decide +kernel
theorem dX8_soldLately_2 : decode cX8_soldLately 2 = .ok (.iconst 0, 1) := by decide +kernel
theorem dX8_soldLately_3 : decode cX8_soldLately 3 = .ok (.istore_n 3, 1) := by decide +kernel
theorem dX8_soldLately_4 : decode cX8_soldLately 4 = .ok (.iload_n 3, 1) := by decide +kernel
theorem dX8_soldLately_5 : decode cX8_soldLately 5 = .ok (.aload_n 0, 1) := by decide +kernel
theorem dX8_soldLately_6 : decode cX8_soldLately 6 = .ok (.getfield 269, 3) := by decide +kernel
theorem dX8_soldLately_9 : decode cX8_soldLately 9 = .ok (.if_icmp .ge 38, 3) := by decide +kernel
theorem dX8_soldLately_12 : decode cX8_soldLately 12 = .ok (.aload_n 0, 1) := by decide +kernel
theorem dX8_soldLately_13 : decode cX8_soldLately 13 = .ok (.getfield 96, 3) := by decide +kernel
theorem dX8_soldLately_16 : decode cX8_soldLately 16 = .ok (.iload_n 3, 1) := by decide +kernel
theorem dX8_soldLately_17 : decode cX8_soldLately 17 = .ok (.iaload, 1) := by decide +kernel
theorem dX8_soldLately_18 : decode cX8_soldLately 18 = .ok (.iload_n 1, 1) := by decide +kernel
theorem dX8_soldLately_19 : decode cX8_soldLately 19 = .ok (.if_icmp .ne 22, 3) := by decide +kernel
theorem dX8_soldLately_22 : decode cX8_soldLately 22 = .ok (.aload_n 0, 1) := by decide +kernel
theorem dX8_soldLately_23 : decode cX8_soldLately 23 = .ok (.getfield 99, 3) := by decide +kernel
theorem dX8_soldLately_26 : decode cX8_soldLately 26 = .ok (.iload_n 3, 1) := by decide +kernel
theorem dX8_soldLately_27 : decode cX8_soldLately 27 = .ok (.iaload, 1) := by decide +kernel
theorem dX8_soldLately_28 : decode cX8_soldLately 28 = .ok (.aload_n 0, 1) := by decide +kernel
theorem dX8_soldLately_29 : decode cX8_soldLately 29 = .ok (.getfield 262, 3) := by decide +kernel
theorem dX8_soldLately_32 : decode cX8_soldLately 32 = .ok (.bipush 24, 2) := by decide +kernel
theorem dX8_soldLately_34 : decode cX8_soldLately 34 = .ok (.isub, 1) := by decide +kernel
theorem dX8_soldLately_35 : decode cX8_soldLately 35 = .ok (.if_icmp .le 6, 3) := by decide +kernel
theorem dX8_soldLately_38 : decode cX8_soldLately 38 = .ok (.iinc 2 1, 3) := by decide +kernel
theorem dX8_soldLately_41 : decode cX8_soldLately 41 = .ok (.iinc 3 1, 3) := by decide +kernel
theorem dX8_soldLately_44 : decode cX8_soldLately 44 = .ok (.goto (-40), 3) := by decide +kernel
theorem dX8_soldLately_47 : decode cX8_soldLately 47 = .ok (.iload_n 2, 1) := by decide +kernel
theorem dX8_soldLately_48 : decode cX8_soldLately 48 = .ok (.bipush 20, 2) := by decide +kernel
theorem dX8_soldLately_50 : decode cX8_soldLately 50 = .ok (.if_icmp .le 8, 3) := by decide +kernel
theorem dX8_soldLately_53 : decode cX8_soldLately 53 = .ok (.bipush 20, 2) := by decide +kernel
theorem dX8_soldLately_55 : decode cX8_soldLately 55 = .ok (.goto 4, 3) := by decide +kernel
theorem dX8_soldLately_58 : decode cX8_soldLately 58 = .ok (.iload_n 2, 1) := by decide +kernel
theorem dX8_soldLately_59 : decode cX8_soldLately 59 = .ok (.ireturn, 1) := by decide +kernel
theorem dX8_brings_0 : decode cX8_brings 0 = .ok (.iconst 0, 1) := by decide +kernel
theorem dX8_brings_1 : decode cX8_brings 1 = .ok (.istore_n 3, 1) := by decide +kernel
theorem dX8_brings_2 : decode cX8_brings 2 = .ok (.iconst 0, 1) := by decide +kernel
theorem dX8_brings_3 : decode cX8_brings 3 = .ok (.istore 4, 2) := by decide +kernel
theorem dX8_brings_5 : decode cX8_brings 5 = .ok (.iload 4, 2) := by decide +kernel
theorem dX8_brings_7 : decode cX8_brings 7 = .ok (.iconst 4, 1) := by decide +kernel
theorem dX8_brings_8 : decode cX8_brings 8 = .ok (.if_icmp .ge 61, 3) := by decide +kernel
theorem dX8_brings_11 : decode cX8_brings 11 = .ok (.iconst 4, 1) := by decide +kernel
theorem dX8_brings_12 : decode cX8_brings 12 = .ok (.iload_n 1, 1) := by decide +kernel
theorem dX8_brings_13 : decode cX8_brings 13 = .ok (.imul, 1) := by decide +kernel
theorem dX8_brings_14 : decode cX8_brings 14 = .ok (.iload 4, 2) := by decide +kernel
theorem dX8_brings_16 : decode cX8_brings 16 = .ok (.iadd, 1) := by decide +kernel
theorem dX8_brings_17 : decode cX8_brings 17 = .ok (.istore 5, 2) := by decide +kernel
theorem dX8_brings_19 : decode cX8_brings 19 = .ok (.aload_n 0, 1) := by decide +kernel
theorem dX8_brings_20 : decode cX8_brings 20 = .ok (.getfield 81, 3) := by decide +kernel
theorem dX8_brings_23 : decode cX8_brings 23 = .ok (.iload 5, 2) := by decide +kernel
theorem dX8_brings_25 : decode cX8_brings 25 = .ok (.iaload, 1) := by decide +kernel
theorem dX8_brings_26 : decode cX8_brings 26 = .ok (.iconst (-1), 1) := by decide +kernel
theorem dX8_brings_27 : decode cX8_brings 27 = .ok (.if_icmp .eq 36, 3) := by decide +kernel
theorem dX8_brings_30 : decode cX8_brings 30 = .ok (.iload_n 3, 1) := by decide +kernel
theorem dX8_brings_31 : decode cX8_brings 31 = .ok (.aload_n 0, 1) := by decide +kernel
theorem dX8_brings_32 : decode cX8_brings 32 = .ok (.getfield 84, 3) := by decide +kernel
theorem dX8_brings_35 : decode cX8_brings 35 = .ok (.iload 5, 2) := by decide +kernel
theorem dX8_brings_37 : decode cX8_brings 37 = .ok (.iaload, 1) := by decide +kernel
theorem dX8_brings_38 : decode cX8_brings 38 = .ok (.i2l, 1) := by decide +kernel
theorem dX8_brings_39 : decode cX8_brings 39 = .ok (.aload_n 0, 1) := by decide +kernel
theorem dX8_brings_40 : decode cX8_brings 40 = .ok (.getfield 87, 3) := by decide +kernel
theorem dX8_brings_43 : decode cX8_brings 43 = .ok (.iload 5, 2) := by decide +kernel
theorem dX8_brings_45 : decode cX8_brings 45 = .ok (.iaload, 1) := by decide +kernel
theorem dX8_brings_46 : decode cX8_brings 46 = .ok (.i2l, 1) := by decide +kernel
theorem dX8_brings_47 : decode cX8_brings 47 = .ok (.lmul, 1) := by decide +kernel
theorem dX8_brings_48 : decode cX8_brings 48 = .ok (.aload_n 0, 1) := by decide +kernel
theorem dX8_brings_49 : decode cX8_brings 49 = .ok (.getfield 23, 3) := by decide +kernel
theorem dX8_brings_52 : decode cX8_brings 52 = .ok (.iload_n 2, 1) := by decide +kernel
theorem dX8_brings_53 : decode cX8_brings 53 = .ok (.iaload, 1) := by decide +kernel
theorem dX8_brings_54 : decode cX8_brings 54 = .ok (.i2l, 1) := by decide +kernel
theorem dX8_brings_55 : decode cX8_brings 55 = .ok (.lmul, 1) := by decide +kernel
theorem dX8_brings_56 : decode cX8_brings 56 = .ok (.ldc2_w 272, 3) := by decide +kernel
theorem dX8_brings_59 : decode cX8_brings 59 = .ok (.ldiv, 1) := by decide +kernel
theorem dX8_brings_60 : decode cX8_brings 60 = .ok (.l2i, 1) := by decide +kernel
theorem dX8_brings_61 : decode cX8_brings 61 = .ok (.iadd, 1) := by decide +kernel
theorem dX8_brings_62 : decode cX8_brings 62 = .ok (.istore_n 3, 1) := by decide +kernel
theorem dX8_brings_63 : decode cX8_brings 63 = .ok (.iinc 4 1, 3) := by decide +kernel
theorem dX8_brings_66 : decode cX8_brings 66 = .ok (.goto (-61), 3) := by decide +kernel
theorem dX8_brings_69 : decode cX8_brings 69 = .ok (.iload_n 3, 1) := by decide +kernel
theorem dX8_brings_70 : decode cX8_brings 70 = .ok (.iload_n 3, 1) := by decide +kernel
theorem dX8_brings_71 : decode cX8_brings 71 = .ok (.iconst 5, 1) := by decide +kernel
theorem dX8_brings_72 : decode cX8_brings 72 = .ok (.imul, 1) := by decide +kernel
theorem dX8_brings_73 : decode cX8_brings 73 = .ok (.aload_n 0, 1) := by decide +kernel
theorem dX8_brings_74 : decode cX8_brings 74 = .ok (.iload_n 2, 1) := by decide +kernel
theorem dX8_brings_75 : decode cX8_brings 75 = .ok (.invokevirtual 274, 3) := by decide +kernel
theorem dX8_brings_78 : decode cX8_brings 78 = .ok (.imul, 1) := by decide +kernel
theorem dX8_brings_79 : decode cX8_brings 79 = .ok (.bipush 100, 2) := by decide +kernel
theorem dX8_brings_81 : decode cX8_brings 81 = .ok (.idiv, 1) := by decide +kernel
theorem dX8_brings_82 : decode cX8_brings 82 = .ok (.isub, 1) := by decide +kernel
theorem dX8_brings_83 : decode cX8_brings 83 = .ok (.ireturn, 1) := by decide +kernel
theorem dX8_sell_0 : decode cX8_sell 0 = .ok (.aload_n 0, 1) := by decide +kernel
theorem dX8_sell_1 : decode cX8_sell 1 = .ok (.iload_n 1, 1) := by decide +kernel
theorem dX8_sell_2 : decode cX8_sell 2 = .ok (.invokevirtual 168, 3) := by decide +kernel
theorem dX8_sell_5 : decode cX8_sell 5 = .ok (.ifCond .ne 10, 3) := by decide +kernel
theorem dX8_sell_8 : decode cX8_sell 8 = .ok (.aload_n 0, 1) := by decide +kernel
theorem dX8_sell_9 : decode cX8_sell 9 = .ok (.bipush (-3), 2) := by decide +kernel
theorem dX8_sell_11 : decode cX8_sell 11 = .ok (.invokevirtual 148, 3) := by decide +kernel
theorem dX8_sell_14 : decode cX8_sell 14 = .ok (.ireturn, 1) := by decide +kernel
theorem dX8_sell_15 : decode cX8_sell 15 = .ok (.aload_n 0, 1) := by decide +kernel
theorem dX8_sell_16 : decode cX8_sell 16 = .ok (.getfield 68, 3) := by decide +kernel
theorem dX8_sell_19 : decode cX8_sell 19 = .ok (.iload_n 1, 1) := by decide +kernel
theorem dX8_sell_20 : decode cX8_sell 20 = .ok (.baload, 1) := by decide +kernel
theorem dX8_sell_21 : decode cX8_sell 21 = .ok (.ifCond .eq 17, 3) := by decide +kernel
theorem dX8_sell_24 : decode cX8_sell 24 = .ok (.aload_n 0, 1) := by decide +kernel
theorem dX8_sell_25 : decode cX8_sell 25 = .ok (.getfield 23, 3) := by decide +kernel
theorem dX8_sell_28 : decode cX8_sell 28 = .ok (.aload_n 0, 1) := by decide +kernel
theorem dX8_sell_29 : decode cX8_sell 29 = .ok (.getfield 47, 3) := by decide +kernel
theorem dX8_sell_32 : decode cX8_sell 32 = .ok (.iload_n 1, 1) := by decide +kernel
theorem dX8_sell_33 : decode cX8_sell 33 = .ok (.iaload, 1) := by decide +kernel
theorem dX8_sell_34 : decode cX8_sell 34 = .ok (.iaload, 1) := by decide +kernel
theorem dX8_sell_35 : decode cX8_sell 35 = .ok (.ifCond .ne 10, 3) := by decide +kernel
theorem dX8_sell_38 : decode cX8_sell 38 = .ok (.aload_n 0, 1) := by decide +kernel
theorem dX8_sell_39 : decode cX8_sell 39 = .ok (.bipush (-7), 2) := by decide +kernel
theorem dX8_sell_41 : decode cX8_sell 41 = .ok (.invokevirtual 148, 3) := by decide +kernel
theorem dX8_sell_44 : decode cX8_sell 44 = .ok (.ireturn, 1) := by decide +kernel
theorem dX8_sell_45 : decode cX8_sell 45 = .ok (.aload_n 0, 1) := by decide +kernel
theorem dX8_sell_46 : decode cX8_sell 46 = .ok (.iload_n 1, 1) := by decide +kernel
theorem dX8_sell_47 : decode cX8_sell 47 = .ok (.aload_n 0, 1) := by decide +kernel
theorem dX8_sell_48 : decode cX8_sell 48 = .ok (.getfield 47, 3) := by decide +kernel
theorem dX8_sell_51 : decode cX8_sell 51 = .ok (.iload_n 1, 1) := by decide +kernel
theorem dX8_sell_52 : decode cX8_sell 52 = .ok (.iaload, 1) := by decide +kernel
theorem dX8_sell_53 : decode cX8_sell 53 = .ok (.invokevirtual 277, 3) := by decide +kernel
theorem dX8_sell_56 : decode cX8_sell 56 = .ok (.istore_n 2, 1) := by decide +kernel
theorem dX8_sell_57 : decode cX8_sell 57 = .ok (.aload_n 0, 1) := by decide +kernel
theorem dX8_sell_58 : decode cX8_sell 58 = .ok (.getfield 269, 3) := by decide +kernel
theorem dX8_sell_61 : decode cX8_sell 61 = .ok (.sipush 256, 3) := by decide +kernel
theorem dX8_sell_64 : decode cX8_sell 64 = .ok (.if_icmp .ne 56, 3) := by decide +kernel
theorem dX8_sell_67 : decode cX8_sell 67 = .ok (.iconst 1, 1) := by decide +kernel
theorem dX8_sell_68 : decode cX8_sell 68 = .ok (.istore_n 3, 1) := by decide +kernel
theorem dX8_sell_69 : decode cX8_sell 69 = .ok (.iload_n 3, 1) := by decide +kernel
theorem dX8_sell_70 : decode cX8_sell 70 = .ok (.sipush 256, 3) := by decide +kernel
theorem dX8_sell_73 : decode cX8_sell 73 = .ok (.if_icmp .ge 37, 3) := by decide +kernel
theorem dX8_sell_76 : decode cX8_sell 76 = .ok (.aload_n 0, 1) := by decide +kernel
theorem dX8_sell_77 : decode cX8_sell 77 = .ok (.getfield 96, 3) := by decide +kernel
theorem dX8_sell_80 : decode cX8_sell 80 = .ok (.iload_n 3, 1) := by decide +kernel
theorem dX8_sell_81 : decode cX8_sell 81 = .ok (.iconst 1, 1) := by decide +kernel
theorem dX8_sell_82 : decode cX8_sell 82 = .ok (.isub, 1) := by decide +kernel
theorem dX8_sell_83 : decode cX8_sell 83 = .ok (.aload_n 0, 1) := by decide +kernel
theorem dX8_sell_84 : decode cX8_sell 84 = .ok (.getfield 96, 3) := by decide +kernel
theorem dX8_sell_87 : decode cX8_sell 87 = .ok (.iload_n 3, 1) := by decide +kernel
theorem dX8_sell_88 : decode cX8_sell 88 = .ok (.iaload, 1) := by decide +kernel
theorem dX8_sell_89 : decode cX8_sell 89 = .ok (.iastore, 1) := by decide +kernel
theorem dX8_sell_90 : decode cX8_sell 90 = .ok (.aload_n 0, 1) := by decide +kernel
theorem dX8_sell_91 : decode cX8_sell 91 = .ok (.getfield 99, 3) := by decide +kernel
theorem dX8_sell_94 : decode cX8_sell 94 = .ok (.iload_n 3, 1) := by decide +kernel
theorem dX8_sell_95 : decode cX8_sell 95 = .ok (.iconst 1, 1) := by decide +kernel
theorem dX8_sell_96 : decode cX8_sell 96 = .ok (.isub, 1) := by decide +kernel
theorem dX8_sell_97 : decode cX8_sell 97 = .ok (.aload_n 0, 1) := by decide +kernel
theorem dX8_sell_98 : decode cX8_sell 98 = .ok (.getfield 99, 3) := by decide +kernel
theorem dX8_sell_101 : decode cX8_sell 101 = .ok (.iload_n 3, 1) := by decide +kernel
theorem dX8_sell_102 : decode cX8_sell 102 = .ok (.iaload, 1) := by decide +kernel
theorem dX8_sell_103 : decode cX8_sell 103 = .ok (.iastore, 1) := by decide +kernel
theorem dX8_sell_104 : decode cX8_sell 104 = .ok (.iinc 3 1, 3) := by decide +kernel
theorem dX8_sell_107 : decode cX8_sell 107 = .ok (.goto (-38), 3) := by decide +kernel
theorem dX8_sell_110 : decode cX8_sell 110 = .ok (.aload_n 0, 1) := by decide +kernel
theorem dX8_sell_111 : decode cX8_sell 111 = .ok (.dup, 1) := by decide +kernel
theorem dX8_sell_112 : decode cX8_sell 112 = .ok (.getfield 269, 3) := by decide +kernel
theorem dX8_sell_115 : decode cX8_sell 115 = .ok (.iconst 1, 1) := by decide +kernel
theorem dX8_sell_116 : decode cX8_sell 116 = .ok (.isub, 1) := by decide +kernel
theorem dX8_sell_117 : decode cX8_sell 117 = .ok (.putfield 269, 3) := by decide +kernel
theorem dX8_sell_120 : decode cX8_sell 120 = .ok (.aload_n 0, 1) := by decide +kernel
theorem dX8_sell_121 : decode cX8_sell 121 = .ok (.getfield 96, 3) := by decide +kernel
theorem dX8_sell_124 : decode cX8_sell 124 = .ok (.aload_n 0, 1) := by decide +kernel
theorem dX8_sell_125 : decode cX8_sell 125 = .ok (.getfield 269, 3) := by decide +kernel
theorem dX8_sell_128 : decode cX8_sell 128 = .ok (.aload_n 0, 1) := by decide +kernel
theorem dX8_sell_129 : decode cX8_sell 129 = .ok (.getfield 47, 3) := by decide +kernel
theorem dX8_sell_132 : decode cX8_sell 132 = .ok (.iload_n 1, 1) := by decide +kernel
theorem dX8_sell_133 : decode cX8_sell 133 = .ok (.iaload, 1) := by decide +kernel
theorem dX8_sell_134 : decode cX8_sell 134 = .ok (.iastore, 1) := by decide +kernel
theorem dX8_sell_135 : decode cX8_sell 135 = .ok (.aload_n 0, 1) := by decide +kernel
theorem dX8_sell_136 : decode cX8_sell 136 = .ok (.getfield 99, 3) := by decide +kernel
theorem dX8_sell_139 : decode cX8_sell 139 = .ok (.aload_n 0, 1) := by decide +kernel
theorem dX8_sell_140 : decode cX8_sell 140 = .ok (.dup, 1) := by decide +kernel
theorem dX8_sell_141 : decode cX8_sell 141 = .ok (.getfield 269, 3) := by decide +kernel
theorem dX8_sell_144 : decode cX8_sell 144 = .ok (.dup_x1, 1) := by decide +kernel
theorem dX8_sell_145 : decode cX8_sell 145 = .ok (.iconst 1, 1) := by decide +kernel
theorem dX8_sell_146 : decode cX8_sell 146 = .ok (.iadd, 1) := by decide +kernel
theorem dX8_sell_147 : decode cX8_sell 147 = .ok (.putfield 269, 3) := by decide +kernel
theorem dX8_sell_150 : decode cX8_sell 150 = .ok (.aload_n 0, 1) := by decide +kernel
theorem dX8_sell_151 : decode cX8_sell 151 = .ok (.getfield 262, 3) := by decide +kernel
theorem dX8_sell_154 : decode cX8_sell 154 = .ok (.iastore, 1) := by decide +kernel
theorem dX8_sell_155 : decode cX8_sell 155 = .ok (.iconst 0, 1) := by decide +kernel
theorem dX8_sell_156 : decode cX8_sell 156 = .ok (.istore_n 3, 1) := by decide +kernel
theorem dX8_sell_157 : decode cX8_sell 157 = .ok (.iload_n 3, 1) := by decide +kernel
theorem dX8_sell_158 : decode cX8_sell 158 = .ok (.iconst 4, 1) := by decide +kernel
theorem dX8_sell_159 : decode cX8_sell 159 = .ok (.if_icmp .ge 20, 3) := by decide +kernel
theorem dX8_sell_162 : decode cX8_sell 162 = .ok (.aload_n 0, 1) := by decide +kernel
theorem dX8_sell_163 : decode cX8_sell 163 = .ok (.getfield 81, 3) := by decide +kernel
theorem dX8_sell_166 : decode cX8_sell 166 = .ok (.iconst 4, 1) := by decide +kernel
theorem dX8_sell_167 : decode cX8_sell 167 = .ok (.iload_n 1, 1) := by decide +kernel
theorem dX8_sell_168 : decode cX8_sell 168 = .ok (.imul, 1) := by decide +kernel
theorem dX8_sell_169 : decode cX8_sell 169 = .ok (.iload_n 3, 1) := by decide +kernel
theorem dX8_sell_170 : decode cX8_sell 170 = .ok (.iadd, 1) := by decide +kernel
theorem dX8_sell_171 : decode cX8_sell 171 = .ok (.iconst (-1), 1) := by decide +kernel
theorem dX8_sell_172 : decode cX8_sell 172 = .ok (.iastore, 1) := by decide +kernel
theorem dX8_sell_173 : decode cX8_sell 173 = .ok (.iinc 3 1, 3) := by decide +kernel
theorem dX8_sell_176 : decode cX8_sell 176 = .ok (.goto (-19), 3) := by decide +kernel
theorem dX8_sell_179 : decode cX8_sell 179 = .ok (.aload_n 0, 1) := by decide +kernel
theorem dX8_sell_180 : decode cX8_sell 180 = .ok (.getfield 68, 3) := by decide +kernel
theorem dX8_sell_183 : decode cX8_sell 183 = .ok (.iload_n 1, 1) := by decide +kernel
theorem dX8_sell_184 : decode cX8_sell 184 = .ok (.iconst 0, 1) := by decide +kernel
theorem dX8_sell_185 : decode cX8_sell 185 = .ok (.bastore, 1) := by decide +kernel
theorem dX8_sell_186 : decode cX8_sell 186 = .ok (.aload_n 0, 1) := by decide +kernel
theorem dX8_sell_187 : decode cX8_sell 187 = .ok (.dup, 1) := by decide +kernel
theorem dX8_sell_188 : decode cX8_sell 188 = .ok (.getfield 280, 3) := by decide +kernel
theorem dX8_sell_191 : decode cX8_sell 191 = .ok (.iconst 1, 1) := by decide +kernel
theorem dX8_sell_192 : decode cX8_sell 192 = .ok (.iadd, 1) := by decide +kernel
theorem dX8_sell_193 : decode cX8_sell 193 = .ok (.putfield 280, 3) := by decide +kernel
theorem dX8_sell_196 : decode cX8_sell 196 = .ok (.aload_n 0, 1) := by decide +kernel
theorem dX8_sell_197 : decode cX8_sell 197 = .ok (.dup, 1) := by decide +kernel
theorem dX8_sell_198 : decode cX8_sell 198 = .ok (.getfield 283, 3) := by decide +kernel
theorem dX8_sell_201 : decode cX8_sell 201 = .ok (.iload_n 2, 1) := by decide +kernel
theorem dX8_sell_202 : decode cX8_sell 202 = .ok (.iadd, 1) := by decide +kernel
theorem dX8_sell_203 : decode cX8_sell 203 = .ok (.putfield 283, 3) := by decide +kernel
theorem dX8_sell_206 : decode cX8_sell 206 = .ok (.iload_n 2, 1) := by decide +kernel
theorem dX8_sell_207 : decode cX8_sell 207 = .ok (.ireturn, 1) := by decide +kernel
theorem dX8_tried_0 : decode cX8_tried 0 = .ok (.bipush 10, 2) := by decide +kernel
theorem dX8_tried_2 : decode cX8_tried 2 = .ok (.istore_n 3, 1) := by decide +kernel
theorem dX8_tried_3 : decode cX8_tried 3 = .ok (.aload_n 0, 1) := by decide +kernel
theorem dX8_tried_4 : decode cX8_tried 4 = .ok (.getfield 38, 3) := by decide +kernel
theorem dX8_tried_7 : decode cX8_tried 7 = .ok (.iload_n 3, 1) := by decide +kernel
theorem dX8_tried_8 : decode cX8_tried 8 = .ok (.aload_n 0, 1) := by decide +kernel
theorem dX8_tried_9 : decode cX8_tried 9 = .ok (.getfield 38, 3) := by decide +kernel
theorem dX8_tried_12 : decode cX8_tried 12 = .ok (.iload_n 1, 1) := by decide +kernel
theorem dX8_tried_13 : decode cX8_tried 13 = .ok (.iaload, 1) := by decide +kernel
theorem dX8_tried_14 : decode cX8_tried 14 = .ok (.iastore, 1) := by decide +kernel
theorem dX8_tried_15 : decode cX8_tried 15 = .ok (.aload_n 0, 1) := by decide +kernel
theorem dX8_tried_16 : decode cX8_tried 16 = .ok (.getfield 41, 3) := by decide +kernel
theorem dX8_tried_19 : decode cX8_tried 19 = .ok (.iload_n 3, 1) := by decide +kernel
theorem dX8_tried_20 : decode cX8_tried 20 = .ok (.aload_n 0, 1) := by decide +kernel
theorem dX8_tried_21 : decode cX8_tried 21 = .ok (.getfield 41, 3) := by decide +kernel
theorem dX8_tried_24 : decode cX8_tried 24 = .ok (.iload_n 1, 1) := by decide +kernel
theorem dX8_tried_25 : decode cX8_tried 25 = .ok (.iaload, 1) := by decide +kernel
theorem dX8_tried_26 : decode cX8_tried 26 = .ok (.iastore, 1) := by decide +kernel
theorem dX8_tried_27 : decode cX8_tried 27 = .ok (.aload_n 0, 1) := by decide +kernel
theorem dX8_tried_28 : decode cX8_tried 28 = .ok (.getfield 44, 3) := by decide +kernel
theorem dX8_tried_31 : decode cX8_tried 31 = .ok (.iload_n 3, 1) := by decide +kernel
theorem dX8_tried_32 : decode cX8_tried 32 = .ok (.aload_n 0, 1) := by decide +kernel
theorem dX8_tried_33 : decode cX8_tried 33 = .ok (.getfield 44, 3) := by decide +kernel
theorem dX8_tried_36 : decode cX8_tried 36 = .ok (.iload_n 1, 1) := by decide +kernel
theorem dX8_tried_37 : decode cX8_tried 37 = .ok (.iaload, 1) := by decide +kernel
theorem dX8_tried_38 : decode cX8_tried 38 = .ok (.iastore, 1) := by decide +kernel
theorem dX8_tried_39 : decode cX8_tried 39 = .ok (.aload_n 0, 1) := by decide +kernel
theorem dX8_tried_40 : decode cX8_tried 40 = .ok (.getfield 47, 3) := by decide +kernel
theorem dX8_tried_43 : decode cX8_tried 43 = .ok (.iload_n 3, 1) := by decide +kernel
theorem dX8_tried_44 : decode cX8_tried 44 = .ok (.aload_n 0, 1) := by decide +kernel
theorem dX8_tried_45 : decode cX8_tried 45 = .ok (.getfield 47, 3) := by decide +kernel
theorem dX8_tried_48 : decode cX8_tried 48 = .ok (.iload_n 1, 1) := by decide +kernel
theorem dX8_tried_49 : decode cX8_tried 49 = .ok (.iaload, 1) := by decide +kernel
theorem dX8_tried_50 : decode cX8_tried 50 = .ok (.iastore, 1) := by decide +kernel
theorem dX8_tried_51 : decode cX8_tried 51 = .ok (.aload_n 0, 1) := by decide +kernel
theorem dX8_tried_52 : decode cX8_tried 52 = .ok (.getfield 50, 3) := by decide +kernel
theorem dX8_tried_55 : decode cX8_tried 55 = .ok (.iload_n 3, 1) := by decide +kernel
theorem dX8_tried_56 : decode cX8_tried 56 = .ok (.aload_n 0, 1) := by decide +kernel
theorem dX8_tried_57 : decode cX8_tried 57 = .ok (.getfield 50, 3) := by decide +kernel
theorem dX8_tried_60 : decode cX8_tried 60 = .ok (.iload_n 1, 1) := by decide +kernel
theorem dX8_tried_61 : decode cX8_tried 61 = .ok (.iaload, 1) := by decide +kernel
theorem dX8_tried_62 : decode cX8_tried 62 = .ok (.iastore, 1) := by decide +kernel
theorem dX8_tried_63 : decode cX8_tried 63 = .ok (.aload_n 0, 1) := by decide +kernel
theorem dX8_tried_64 : decode cX8_tried 64 = .ok (.getfield 53, 3) := by decide +kernel
theorem dX8_tried_67 : decode cX8_tried 67 = .ok (.iload_n 3, 1) := by decide +kernel
theorem dX8_tried_68 : decode cX8_tried 68 = .ok (.aload_n 0, 1) := by decide +kernel
theorem dX8_tried_69 : decode cX8_tried 69 = .ok (.getfield 53, 3) := by decide +kernel
theorem dX8_tried_72 : decode cX8_tried 72 = .ok (.iload_n 1, 1) := by decide +kernel
theorem dX8_tried_73 : decode cX8_tried 73 = .ok (.iaload, 1) := by decide +kernel
theorem dX8_tried_74 : decode cX8_tried 74 = .ok (.iastore, 1) := by decide +kernel
theorem dX8_tried_75 : decode cX8_tried 75 = .ok (.aload_n 0, 1) := by decide +kernel
theorem dX8_tried_76 : decode cX8_tried 76 = .ok (.getfield 56, 3) := by decide +kernel
theorem dX8_tried_79 : decode cX8_tried 79 = .ok (.iload_n 3, 1) := by decide +kernel
theorem dX8_tried_80 : decode cX8_tried 80 = .ok (.aload_n 0, 1) := by decide +kernel
theorem dX8_tried_81 : decode cX8_tried 81 = .ok (.getfield 56, 3) := by decide +kernel
theorem dX8_tried_84 : decode cX8_tried 84 = .ok (.iload_n 1, 1) := by decide +kernel
theorem dX8_tried_85 : decode cX8_tried 85 = .ok (.iaload, 1) := by decide +kernel
theorem dX8_tried_86 : decode cX8_tried 86 = .ok (.iastore, 1) := by decide +kernel
theorem dX8_tried_87 : decode cX8_tried 87 = .ok (.aload_n 0, 1) := by decide +kernel
theorem dX8_tried_88 : decode cX8_tried 88 = .ok (.getfield 59, 3) := by decide +kernel
theorem dX8_tried_91 : decode cX8_tried 91 = .ok (.iload_n 3, 1) := by decide +kernel
theorem dX8_tried_92 : decode cX8_tried 92 = .ok (.aload_n 0, 1) := by decide +kernel
theorem dX8_tried_93 : decode cX8_tried 93 = .ok (.getfield 59, 3) := by decide +kernel
theorem dX8_tried_96 : decode cX8_tried 96 = .ok (.iload_n 1, 1) := by decide +kernel
theorem dX8_tried_97 : decode cX8_tried 97 = .ok (.iaload, 1) := by decide +kernel
theorem dX8_tried_98 : decode cX8_tried 98 = .ok (.iastore, 1) := by decide +kernel
theorem dX8_tried_99 : decode cX8_tried 99 = .ok (.aload_n 0, 1) := by decide +kernel
theorem dX8_tried_100 : decode cX8_tried 100 = .ok (.getfield 72, 3) := by decide +kernel
theorem dX8_tried_103 : decode cX8_tried 103 = .ok (.iload_n 3, 1) := by decide +kernel
theorem dX8_tried_104 : decode cX8_tried 104 = .ok (.iconst 0, 1) := by decide +kernel
theorem dX8_tried_105 : decode cX8_tried 105 = .ok (.bastore, 1) := by decide +kernel
theorem dX8_tried_106 : decode cX8_tried 106 = .ok (.iconst 0, 1) := by decide +kernel
theorem dX8_tried_107 : decode cX8_tried 107 = .ok (.istore 4, 2) := by decide +kernel
theorem dX8_tried_109 : decode cX8_tried 109 = .ok (.iload 4, 2) := by decide +kernel
theorem dX8_tried_111 : decode cX8_tried 111 = .ok (.iconst 4, 1) := by decide +kernel
theorem dX8_tried_112 : decode cX8_tried 112 = .ok (.if_icmp .ge 135, 3) := by decide +kernel
theorem dX8_tried_115 : decode cX8_tried 115 = .ok (.aload_n 0, 1) := by decide +kernel
theorem dX8_tried_116 : decode cX8_tried 116 = .ok (.getfield 78, 3) := by decide +kernel
theorem dX8_tried_119 : decode cX8_tried 119 = .ok (.bipush 40, 2) := by decide +kernel
theorem dX8_tried_121 : decode cX8_tried 121 = .ok (.iload 4, 2) := by decide +kernel
theorem dX8_tried_123 : decode cX8_tried 123 = .ok (.iadd, 1) := by decide +kernel
theorem dX8_tried_124 : decode cX8_tried 124 = .ok (.aload_n 0, 1) := by decide +kernel
theorem dX8_tried_125 : decode cX8_tried 125 = .ok (.getfield 78, 3) := by decide +kernel
theorem dX8_tried_128 : decode cX8_tried 128 = .ok (.iconst 4, 1) := by decide +kernel
theorem dX8_tried_129 : decode cX8_tried 129 = .ok (.iload_n 1, 1) := by decide +kernel
theorem dX8_tried_130 : decode cX8_tried 130 = .ok (.imul, 1) := by decide +kernel
theorem dX8_tried_131 : decode cX8_tried 131 = .ok (.iload 4, 2) := by decide +kernel
theorem dX8_tried_133 : decode cX8_tried 133 = .ok (.iadd, 1) := by decide +kernel
theorem dX8_tried_134 : decode cX8_tried 134 = .ok (.iaload, 1) := by decide +kernel
theorem dX8_tried_135 : decode cX8_tried 135 = .ok (.iastore, 1) := by decide +kernel
theorem dX8_tried_136 : decode cX8_tried 136 = .ok (.aload_n 0, 1) := by decide +kernel
theorem dX8_tried_137 : decode cX8_tried 137 = .ok (.getfield 81, 3) := by decide +kernel
theorem dX8_tried_140 : decode cX8_tried 140 = .ok (.bipush 40, 2) := by decide +kernel
theorem dX8_tried_142 : decode cX8_tried 142 = .ok (.iload 4, 2) := by decide +kernel
theorem dX8_tried_144 : decode cX8_tried 144 = .ok (.iadd, 1) := by decide +kernel
theorem dX8_tried_145 : decode cX8_tried 145 = .ok (.aload_n 0, 1) := by decide +kernel
theorem dX8_tried_146 : decode cX8_tried 146 = .ok (.getfield 81, 3) := by decide +kernel
theorem dX8_tried_149 : decode cX8_tried 149 = .ok (.iconst 4, 1) := by decide +kernel
theorem dX8_tried_150 : decode cX8_tried 150 = .ok (.iload_n 1, 1) := by decide +kernel
theorem dX8_tried_151 : decode cX8_tried 151 = .ok (.imul, 1) := by decide +kernel
theorem dX8_tried_152 : decode cX8_tried 152 = .ok (.iload 4, 2) := by decide +kernel
theorem dX8_tried_154 : decode cX8_tried 154 = .ok (.iadd, 1) := by decide +kernel
theorem dX8_tried_155 : decode cX8_tried 155 = .ok (.iaload, 1) := by decide +kernel
theorem dX8_tried_156 : decode cX8_tried 156 = .ok (.iastore, 1) := by decide +kernel
theorem dX8_tried_157 : decode cX8_tried 157 = .ok (.aload_n 0, 1) := by decide +kernel
theorem dX8_tried_158 : decode cX8_tried 158 = .ok (.getfield 84, 3) := by decide +kernel
theorem dX8_tried_161 : decode cX8_tried 161 = .ok (.bipush 40, 2) := by decide +kernel
theorem dX8_tried_163 : decode cX8_tried 163 = .ok (.iload 4, 2) := by decide +kernel
theorem dX8_tried_165 : decode cX8_tried 165 = .ok (.iadd, 1) := by decide +kernel
theorem dX8_tried_166 : decode cX8_tried 166 = .ok (.aload_n 0, 1) := by decide +kernel
theorem dX8_tried_167 : decode cX8_tried 167 = .ok (.getfield 84, 3) := by decide +kernel
theorem dX8_tried_170 : decode cX8_tried 170 = .ok (.iconst 4, 1) := by decide +kernel
theorem dX8_tried_171 : decode cX8_tried 171 = .ok (.iload_n 1, 1) := by decide +kernel
theorem dX8_tried_172 : decode cX8_tried 172 = .ok (.imul, 1) := by decide +kernel
theorem dX8_tried_173 : decode cX8_tried 173 = .ok (.iload 4, 2) := by decide +kernel
theorem dX8_tried_175 : decode cX8_tried 175 = .ok (.iadd, 1) := by decide +kernel
theorem dX8_tried_176 : decode cX8_tried 176 = .ok (.iaload, 1) := by decide +kernel
theorem dX8_tried_177 : decode cX8_tried 177 = .ok (.iastore, 1) := by decide +kernel
theorem dX8_tried_178 : decode cX8_tried 178 = .ok (.aload_n 0, 1) := by decide +kernel
theorem dX8_tried_179 : decode cX8_tried 179 = .ok (.getfield 87, 3) := by decide +kernel
theorem dX8_tried_182 : decode cX8_tried 182 = .ok (.bipush 40, 2) := by decide +kernel
theorem dX8_tried_184 : decode cX8_tried 184 = .ok (.iload 4, 2) := by decide +kernel
theorem dX8_tried_186 : decode cX8_tried 186 = .ok (.iadd, 1) := by decide +kernel
theorem dX8_tried_187 : decode cX8_tried 187 = .ok (.aload_n 0, 1) := by decide +kernel
theorem dX8_tried_188 : decode cX8_tried 188 = .ok (.getfield 87, 3) := by decide +kernel
theorem dX8_tried_191 : decode cX8_tried 191 = .ok (.iconst 4, 1) := by decide +kernel
theorem dX8_tried_192 : decode cX8_tried 192 = .ok (.iload_n 1, 1) := by decide +kernel
theorem dX8_tried_193 : decode cX8_tried 193 = .ok (.imul, 1) := by decide +kernel
theorem dX8_tried_194 : decode cX8_tried 194 = .ok (.iload 4, 2) := by decide +kernel
theorem dX8_tried_196 : decode cX8_tried 196 = .ok (.iadd, 1) := by decide +kernel
theorem dX8_tried_197 : decode cX8_tried 197 = .ok (.iaload, 1) := by decide +kernel
theorem dX8_tried_198 : decode cX8_tried 198 = .ok (.iastore, 1) := by decide +kernel
theorem dX8_tried_199 : decode cX8_tried 199 = .ok (.aload_n 0, 1) := by decide +kernel
theorem dX8_tried_200 : decode cX8_tried 200 = .ok (.getfield 90, 3) := by decide +kernel
theorem dX8_tried_203 : decode cX8_tried 203 = .ok (.bipush 40, 2) := by decide +kernel
theorem dX8_tried_205 : decode cX8_tried 205 = .ok (.iload 4, 2) := by decide +kernel
theorem dX8_tried_207 : decode cX8_tried 207 = .ok (.iadd, 1) := by decide +kernel
theorem dX8_tried_208 : decode cX8_tried 208 = .ok (.aload_n 0, 1) := by decide +kernel
theorem dX8_tried_209 : decode cX8_tried 209 = .ok (.getfield 90, 3) := by decide +kernel
theorem dX8_tried_212 : decode cX8_tried 212 = .ok (.iconst 4, 1) := by decide +kernel
theorem dX8_tried_213 : decode cX8_tried 213 = .ok (.iload_n 1, 1) := by decide +kernel
theorem dX8_tried_214 : decode cX8_tried 214 = .ok (.imul, 1) := by decide +kernel
theorem dX8_tried_215 : decode cX8_tried 215 = .ok (.iload 4, 2) := by decide +kernel
theorem dX8_tried_217 : decode cX8_tried 217 = .ok (.iadd, 1) := by decide +kernel
theorem dX8_tried_218 : decode cX8_tried 218 = .ok (.iaload, 1) := by decide +kernel
theorem dX8_tried_219 : decode cX8_tried 219 = .ok (.iastore, 1) := by decide +kernel
theorem dX8_tried_220 : decode cX8_tried 220 = .ok (.aload_n 0, 1) := by decide +kernel
theorem dX8_tried_221 : decode cX8_tried 221 = .ok (.getfield 93, 3) := by decide +kernel
theorem dX8_tried_224 : decode cX8_tried 224 = .ok (.bipush 40, 2) := by decide +kernel
theorem dX8_tried_226 : decode cX8_tried 226 = .ok (.iload 4, 2) := by decide +kernel
theorem dX8_tried_228 : decode cX8_tried 228 = .ok (.iadd, 1) := by decide +kernel
theorem dX8_tried_229 : decode cX8_tried 229 = .ok (.aload_n 0, 1) := by decide +kernel
theorem dX8_tried_230 : decode cX8_tried 230 = .ok (.getfield 93, 3) := by decide +kernel
theorem dX8_tried_233 : decode cX8_tried 233 = .ok (.iconst 4, 1) := by decide +kernel
theorem dX8_tried_234 : decode cX8_tried 234 = .ok (.iload_n 1, 1) := by decide +kernel
theorem dX8_tried_235 : decode cX8_tried 235 = .ok (.imul, 1) := by decide +kernel
theorem dX8_tried_236 : decode cX8_tried 236 = .ok (.iload 4, 2) := by decide +kernel
theorem dX8_tried_238 : decode cX8_tried 238 = .ok (.iadd, 1) := by decide +kernel
theorem dX8_tried_239 : decode cX8_tried 239 = .ok (.iaload, 1) := by decide +kernel
theorem dX8_tried_240 : decode cX8_tried 240 = .ok (.iastore, 1) := by decide +kernel
theorem dX8_tried_241 : decode cX8_tried 241 = .ok (.iinc 4 1, 3) := by decide +kernel
theorem dX8_tried_244 : decode cX8_tried 244 = .ok (.goto (-135), 3) := by decide +kernel
theorem dX8_tried_247 : decode cX8_tried 247 = .ok (.iconst 0, 1) := by decide +kernel
theorem dX8_tried_248 : decode cX8_tried 248 = .ok (.istore 4, 2) := by decide +kernel
theorem dX8_tried_250 : decode cX8_tried 250 = .ok (.iload 4, 2) := by decide +kernel
theorem dX8_tried_252 : decode cX8_tried 252 = .ok (.bipush 8, 2) := by decide +kernel
theorem dX8_tried_254 : decode cX8_tried 254 = .ok (.if_icmp .ge 23, 3) := by decide +kernel
theorem dX8_tried_257 : decode cX8_tried 257 = .ok (.aload_n 0, 1) := by decide +kernel
theorem dX8_tried_258 : decode cX8_tried 258 = .ok (.getfield 138, 3) := by decide +kernel
theorem dX8_tried_261 : decode cX8_tried 261 = .ok (.iload 4, 2) := by decide +kernel
theorem dX8_tried_263 : decode cX8_tried 263 = .ok (.aload_n 0, 1) := by decide +kernel
theorem dX8_tried_264 : decode cX8_tried 264 = .ok (.getfield 17, 3) := by decide +kernel
theorem dX8_tried_267 : decode cX8_tried 267 = .ok (.iload 4, 2) := by decide +kernel
theorem dX8_tried_269 : decode cX8_tried 269 = .ok (.iaload, 1) := by decide +kernel
theorem dX8_tried_270 : decode cX8_tried 270 = .ok (.iastore, 1) := by decide +kernel
theorem dX8_tried_271 : decode cX8_tried 271 = .ok (.iinc 4 1, 3) := by decide +kernel
theorem dX8_tried_274 : decode cX8_tried 274 = .ok (.goto (-24), 3) := by decide +kernel
theorem dX8_tried_277 : decode cX8_tried 277 = .ok (.aload_n 0, 1) := by decide +kernel
theorem dX8_tried_278 : decode cX8_tried 278 = .ok (.getfield 171, 3) := by decide +kernel
theorem dX8_tried_281 : decode cX8_tried 281 = .ok (.istore 4, 2) := by decide +kernel
theorem dX8_tried_283 : decode cX8_tried 283 = .ok (.aload_n 0, 1) := by decide +kernel
theorem dX8_tried_284 : decode cX8_tried 284 = .ok (.getfield 253, 3) := by decide +kernel
theorem dX8_tried_287 : decode cX8_tried 287 = .ok (.istore 5, 2) := by decide +kernel
theorem dX8_tried_289 : decode cX8_tried 289 = .ok (.aload_n 0, 1) := by decide +kernel
theorem dX8_tried_290 : decode cX8_tried 290 = .ok (.getfield 56, 3) := by decide +kernel
theorem dX8_tried_293 : decode cX8_tried 293 = .ok (.iload_n 3, 1) := by decide +kernel
theorem dX8_tried_294 : decode cX8_tried 294 = .ok (.iaload, 1) := by decide +kernel
theorem dX8_tried_295 : decode cX8_tried 295 = .ok (.iconst (-1), 1) := by decide +kernel
theorem dX8_tried_296 : decode cX8_tried 296 = .ok (.if_icmp .ne 12, 3) := by decide +kernel
theorem dX8_tried_299 : decode cX8_tried 299 = .ok (.aload_n 0, 1) := by decide +kernel
theorem dX8_tried_300 : decode cX8_tried 300 = .ok (.iload_n 3, 1) := by decide +kernel
theorem dX8_tried_301 : decode cX8_tried 301 = .ok (.iload_n 2, 1) := by decide +kernel
theorem dX8_tried_302 : decode cX8_tried 302 = .ok (.invokevirtual 174, 3) := by decide +kernel
theorem dX8_tried_305 : decode cX8_tried 305 = .ok (.goto 10, 3) := by decide +kernel
theorem dX8_tried_308 : decode cX8_tried 308 = .ok (.aload_n 0, 1) := by decide +kernel
theorem dX8_tried_309 : decode cX8_tried 309 = .ok (.getfield 56, 3) := by decide +kernel
theorem dX8_tried_312 : decode cX8_tried 312 = .ok (.iload_n 3, 1) := by decide +kernel
theorem dX8_tried_313 : decode cX8_tried 313 = .ok (.iload_n 2, 1) := by decide +kernel
theorem dX8_tried_314 : decode cX8_tried 314 = .ok (.iastore, 1) := by decide +kernel
theorem dX8_tried_315 : decode cX8_tried 315 = .ok (.aload_n 0, 1) := by decide +kernel
theorem dX8_tried_316 : decode cX8_tried 316 = .ok (.getfield 72, 3) := by decide +kernel
theorem dX8_tried_319 : decode cX8_tried 319 = .ok (.iload_n 3, 1) := by decide +kernel
theorem dX8_tried_320 : decode cX8_tried 320 = .ok (.iconst 0, 1) := by decide +kernel
theorem dX8_tried_321 : decode cX8_tried 321 = .ok (.bastore, 1) := by decide +kernel
theorem dX8_tried_322 : decode cX8_tried 322 = .ok (.iconst 0, 1) := by decide +kernel
theorem dX8_tried_323 : decode cX8_tried 323 = .ok (.istore 6, 2) := by decide +kernel
theorem dX8_tried_325 : decode cX8_tried 325 = .ok (.aload_n 0, 1) := by decide +kernel
theorem dX8_tried_326 : decode cX8_tried 326 = .ok (.getfield 262, 3) := by decide +kernel
theorem dX8_tried_329 : decode cX8_tried 329 = .ok (.istore 7, 2) := by decide +kernel
theorem dX8_tried_331 : decode cX8_tried 331 = .ok (.iload 6, 2) := by decide +kernel
theorem dX8_tried_333 : decode cX8_tried 333 = .ok (.ifCond .ne 23, 3) := by decide +kernel
theorem dX8_tried_336 : decode cX8_tried 336 = .ok (.aload_n 0, 1) := by decide +kernel
theorem dX8_tried_337 : decode cX8_tried 337 = .ok (.invokevirtual 259, 3) := by decide +kernel
theorem dX8_tried_340 : decode cX8_tried 340 = .ok (.aload_n 0, 1) := by decide +kernel
theorem dX8_tried_341 : decode cX8_tried 341 = .ok (.iload_n 3, 1) := by decide +kernel
theorem dX8_tried_342 : decode cX8_tried 342 = .ok (.iload 7, 2) := by decide +kernel
theorem dX8_tried_344 : decode cX8_tried 344 = .ok (.iload_n 1, 1) := by decide +kernel
theorem dX8_tried_345 : decode cX8_tried 345 = .ok (.invokevirtual 265, 3) := by decide +kernel
theorem dX8_tried_348 : decode cX8_tried 348 = .ok (.istore 6, 2) := by decide +kernel
theorem dX8_tried_350 : decode cX8_tried 350 = .ok (.iinc 7 1, 3) := by decide +kernel
theorem dX8_tried_353 : decode cX8_tried 353 = .ok (.goto (-22), 3) := by decide +kernel
theorem dX8_tried_356 : decode cX8_tried 356 = .ok (.aload_n 0, 1) := by decide +kernel
theorem dX8_tried_357 : decode cX8_tried 357 = .ok (.invokevirtual 259, 3) := by decide +kernel
theorem dX8_tried_360 : decode cX8_tried 360 = .ok (.aload_n 0, 1) := by decide +kernel
theorem dX8_tried_361 : decode cX8_tried 361 = .ok (.iload_n 3, 1) := by decide +kernel
theorem dX8_tried_362 : decode cX8_tried 362 = .ok (.iload_n 2, 1) := by decide +kernel
theorem dX8_tried_363 : decode cX8_tried 363 = .ok (.invokevirtual 277, 3) := by decide +kernel
theorem dX8_tried_366 : decode cX8_tried 366 = .ok (.istore 7, 2) := by decide +kernel
theorem dX8_tried_368 : decode cX8_tried 368 = .ok (.iconst 0, 1) := by decide +kernel
theorem dX8_tried_369 : decode cX8_tried 369 = .ok (.istore 8, 2) := by decide +kernel
theorem dX8_tried_371 : decode cX8_tried 371 = .ok (.iload 8, 2) := by decide +kernel
theorem dX8_tried_373 : decode cX8_tried 373 = .ok (.bipush 8, 2) := by decide +kernel
theorem dX8_tried_375 : decode cX8_tried 375 = .ok (.if_icmp .ge 23, 3) := by decide +kernel
theorem dX8_tried_378 : decode cX8_tried 378 = .ok (.aload_n 0, 1) := by decide +kernel
theorem dX8_tried_379 : decode cX8_tried 379 = .ok (.getfield 17, 3) := by decide +kernel
theorem dX8_tried_382 : decode cX8_tried 382 = .ok (.iload 8, 2) := by decide +kernel
theorem dX8_tried_384 : decode cX8_tried 384 = .ok (.aload_n 0, 1) := by decide +kernel
theorem dX8_tried_385 : decode cX8_tried 385 = .ok (.getfield 138, 3) := by decide +kernel
theorem dX8_tried_388 : decode cX8_tried 388 = .ok (.iload 8, 2) := by decide +kernel
theorem dX8_tried_390 : decode cX8_tried 390 = .ok (.iaload, 1) := by decide +kernel
theorem dX8_tried_391 : decode cX8_tried 391 = .ok (.iastore, 1) := by decide +kernel
theorem dX8_tried_392 : decode cX8_tried 392 = .ok (.iinc 8 1, 3) := by decide +kernel
theorem dX8_tried_395 : decode cX8_tried 395 = .ok (.goto (-24), 3) := by decide +kernel
theorem dX8_tried_398 : decode cX8_tried 398 = .ok (.aload_n 0, 1) := by decide +kernel
theorem dX8_tried_399 : decode cX8_tried 399 = .ok (.iload 4, 2) := by decide +kernel
theorem dX8_tried_401 : decode cX8_tried 401 = .ok (.putfield 171, 3) := by decide +kernel
theorem dX8_tried_404 : decode cX8_tried 404 = .ok (.aload_n 0, 1) := by decide +kernel
theorem dX8_tried_405 : decode cX8_tried 405 = .ok (.iload 5, 2) := by decide +kernel
theorem dX8_tried_407 : decode cX8_tried 407 = .ok (.putfield 253, 3) := by decide +kernel
theorem dX8_tried_410 : decode cX8_tried 410 = .ok (.iload 7, 2) := by decide +kernel
theorem dX8_tried_412 : decode cX8_tried 412 = .ok (.ireturn, 1) := by decide +kernel
theorem dX8_mayTry_0 : decode cX8_mayTry 0 = .ok (.aload_n 0, 1) := by decide +kernel
theorem dX8_mayTry_1 : decode cX8_mayTry 1 = .ok (.getfield 23, 3) := by decide +kernel
theorem dX8_mayTry_4 : decode cX8_mayTry 4 = .ok (.iload_n 2, 1) := by decide +kernel
theorem dX8_mayTry_5 : decode cX8_mayTry 5 = .ok (.iaload, 1) := by decide +kernel
theorem dX8_mayTry_6 : decode cX8_mayTry 6 = .ok (.ifCond .ne 5, 3) := by decide +kernel
theorem dX8_mayTry_9 : decode cX8_mayTry 9 = .ok (.iconst 0, 1) := by decide +kernel
theorem dX8_mayTry_10 : decode cX8_mayTry 10 = .ok (.ireturn, 1) := by decide +kernel
theorem dX8_mayTry_11 : decode cX8_mayTry 11 = .ok (.aload_n 0, 1) := by decide +kernel
theorem dX8_mayTry_12 : decode cX8_mayTry 12 = .ok (.getfield 56, 3) := by decide +kernel
theorem dX8_mayTry_15 : decode cX8_mayTry 15 = .ok (.iload_n 1, 1) := by decide +kernel
theorem dX8_mayTry_16 : decode cX8_mayTry 16 = .ok (.iaload, 1) := by decide +kernel
theorem dX8_mayTry_17 : decode cX8_mayTry 17 = .ok (.iconst (-1), 1) := by decide +kernel
theorem dX8_mayTry_18 : decode cX8_mayTry 18 = .ok (.if_icmp .ne 21, 3) := by decide +kernel
theorem dX8_mayTry_21 : decode cX8_mayTry 21 = .ok (.aload_n 0, 1) := by decide +kernel
theorem dX8_mayTry_22 : decode cX8_mayTry 22 = .ok (.getfield 47, 3) := by decide +kernel
theorem dX8_mayTry_25 : decode cX8_mayTry 25 = .ok (.iload_n 1, 1) := by decide +kernel
theorem dX8_mayTry_26 : decode cX8_mayTry 26 = .ok (.iaload, 1) := by decide +kernel
theorem dX8_mayTry_27 : decode cX8_mayTry 27 = .ok (.iload_n 2, 1) := by decide +kernel
theorem dX8_mayTry_28 : decode cX8_mayTry 28 = .ok (.if_icmp .eq 7, 3) := by decide +kernel
theorem dX8_mayTry_31 : decode cX8_mayTry 31 = .ok (.iconst 1, 1) := by decide +kernel
theorem dX8_mayTry_32 : decode cX8_mayTry 32 = .ok (.goto 13, 3) := by decide +kernel
theorem dX8_mayTry_35 : decode cX8_mayTry 35 = .ok (.iconst 0, 1) := by decide +kernel
theorem dX8_mayTry_36 : decode cX8_mayTry 36 = .ok (.goto 9, 3) := by decide +kernel
theorem dX8_mayTry_39 : decode cX8_mayTry 39 = .ok (.aload_n 0, 1) := by decide +kernel
theorem dX8_mayTry_40 : decode cX8_mayTry 40 = .ok (.iload_n 1, 1) := by decide +kernel
theorem dX8_mayTry_41 : decode cX8_mayTry 41 = .ok (.iload_n 2, 1) := by decide +kernel
theorem dX8_mayTry_42 : decode cX8_mayTry 42 = .ok (.invokevirtual 181, 3) := by decide +kernel
theorem dX8_mayTry_45 : decode cX8_mayTry 45 = .ok (.ireturn, 1) := by decide +kernel
theorem dX8_worth_0 : decode cX8_worth 0 = .ok (.aload_n 0, 1) := by decide +kernel
theorem dX8_worth_1 : decode cX8_worth 1 = .ok (.iload_n 1, 1) := by decide +kernel
theorem dX8_worth_2 : decode cX8_worth 2 = .ok (.invokevirtual 168, 3) := by decide +kernel
theorem dX8_worth_5 : decode cX8_worth 5 = .ok (.ifCond .eq 11, 3) := by decide +kernel
theorem dX8_worth_8 : decode cX8_worth 8 = .ok (.aload_n 0, 1) := by decide +kernel
theorem dX8_worth_9 : decode cX8_worth 9 = .ok (.iload_n 2, 1) := by decide +kernel
theorem dX8_worth_10 : decode cX8_worth 10 = .ok (.invokevirtual 152, 3) := by decide +kernel
theorem dX8_worth_13 : decode cX8_worth 13 = .ok (.ifCond .ne 10, 3) := by decide +kernel
theorem dX8_worth_16 : decode cX8_worth 16 = .ok (.aload_n 0, 1) := by decide +kernel
theorem dX8_worth_17 : decode cX8_worth 17 = .ok (.bipush (-3), 2) := by decide +kernel
theorem dX8_worth_19 : decode cX8_worth 19 = .ok (.invokevirtual 148, 3) := by decide +kernel
theorem dX8_worth_22 : decode cX8_worth 22 = .ok (.ireturn, 1) := by decide +kernel
theorem dX8_worth_23 : decode cX8_worth 23 = .ok (.aload_n 0, 1) := by decide +kernel
theorem dX8_worth_24 : decode cX8_worth 24 = .ok (.iload_n 1, 1) := by decide +kernel
theorem dX8_worth_25 : decode cX8_worth 25 = .ok (.iload_n 2, 1) := by decide +kernel
theorem dX8_worth_26 : decode cX8_worth 26 = .ok (.invokevirtual 286, 3) := by decide +kernel
theorem dX8_worth_29 : decode cX8_worth 29 = .ok (.ifCond .eq 12, 3) := by decide +kernel
theorem dX8_worth_32 : decode cX8_worth 32 = .ok (.aload_n 0, 1) := by decide +kernel
theorem dX8_worth_33 : decode cX8_worth 33 = .ok (.iload_n 1, 1) := by decide +kernel
theorem dX8_worth_34 : decode cX8_worth 34 = .ok (.iload_n 2, 1) := by decide +kernel
theorem dX8_worth_35 : decode cX8_worth 35 = .ok (.invokevirtual 289, 3) := by decide +kernel
theorem dX8_worth_38 : decode cX8_worth 38 = .ok (.goto 9, 3) := by decide +kernel
theorem dX8_worth_41 : decode cX8_worth 41 = .ok (.aload_n 0, 1) := by decide +kernel
theorem dX8_worth_42 : decode cX8_worth 42 = .ok (.bipush (-7), 2) := by decide +kernel
theorem dX8_worth_44 : decode cX8_worth 44 = .ok (.invokevirtual 148, 3) := by decide +kernel
theorem dX8_worth_47 : decode cX8_worth 47 = .ok (.ireturn, 1) := by decide +kernel
theorem dX8_best_0 : decode cX8_best 0 = .ok (.aload_n 0, 1) := by decide +kernel
theorem dX8_best_1 : decode cX8_best 1 = .ok (.iload_n 1, 1) := by decide +kernel
theorem dX8_best_2 : decode cX8_best 2 = .ok (.invokevirtual 168, 3) := by decide +kernel
theorem dX8_best_5 : decode cX8_best 5 = .ok (.ifCond .ne 10, 3) := by decide +kernel
theorem dX8_best_8 : decode cX8_best 8 = .ok (.aload_n 0, 1) := by decide +kernel
theorem dX8_best_9 : decode cX8_best 9 = .ok (.bipush (-3), 2) := by decide +kernel
theorem dX8_best_11 : decode cX8_best 11 = .ok (.invokevirtual 148, 3) := by decide +kernel
theorem dX8_best_14 : decode cX8_best 14 = .ok (.ireturn, 1) := by decide +kernel
theorem dX8_best_15 : decode cX8_best 15 = .ok (.iconst (-1), 1) := by decide +kernel
theorem dX8_best_16 : decode cX8_best 16 = .ok (.istore_n 2, 1) := by decide +kernel
theorem dX8_best_17 : decode cX8_best 17 = .ok (.iconst 0, 1) := by decide +kernel
theorem dX8_best_18 : decode cX8_best 18 = .ok (.istore_n 3, 1) := by decide +kernel
theorem dX8_best_19 : decode cX8_best 19 = .ok (.iconst 0, 1) := by decide +kernel
theorem dX8_best_20 : decode cX8_best 20 = .ok (.istore 4, 2) := by decide +kernel
theorem dX8_best_22 : decode cX8_best 22 = .ok (.iload 4, 2) := by decide +kernel
theorem dX8_best_24 : decode cX8_best 24 = .ok (.aload_n 0, 1) := by decide +kernel
theorem dX8_best_25 : decode cX8_best 25 = .ok (.getfield 7, 3) := by decide +kernel
theorem dX8_best_28 : decode cX8_best 28 = .ok (.if_icmp .ge 48, 3) := by decide +kernel
theorem dX8_best_31 : decode cX8_best 31 = .ok (.aload_n 0, 1) := by decide +kernel
theorem dX8_best_32 : decode cX8_best 32 = .ok (.iload_n 1, 1) := by decide +kernel
theorem dX8_best_33 : decode cX8_best 33 = .ok (.iload 4, 2) := by decide +kernel
theorem dX8_best_35 : decode cX8_best 35 = .ok (.invokevirtual 286, 3) := by decide +kernel
theorem dX8_best_38 : decode cX8_best 38 = .ok (.ifCond .ne 6, 3) := by decide +kernel
theorem dX8_best_41 : decode cX8_best 41 = .ok (.goto 29, 3) := by decide +kernel
theorem dX8_best_44 : decode cX8_best 44 = .ok (.aload_n 0, 1) := by decide +kernel
theorem dX8_best_45 : decode cX8_best 45 = .ok (.iload_n 1, 1) := by decide +kernel
theorem dX8_best_46 : decode cX8_best 46 = .ok (.iload 4, 2) := by decide +kernel
theorem dX8_best_48 : decode cX8_best 48 = .ok (.invokevirtual 289, 3) := by decide +kernel
theorem dX8_best_51 : decode cX8_best 51 = .ok (.istore 5, 2) := by decide +kernel
theorem dX8_best_53 : decode cX8_best 53 = .ok (.iload_n 2, 1) := by decide +kernel
theorem dX8_best_54 : decode cX8_best 54 = .ok (.iconst (-1), 1) := by decide +kernel
theorem dX8_best_55 : decode cX8_best 55 = .ok (.if_icmp .eq 9, 3) := by decide +kernel
theorem dX8_best_58 : decode cX8_best 58 = .ok (.iload 5, 2) := by decide +kernel
theorem dX8_best_60 : decode cX8_best 60 = .ok (.iload_n 3, 1) := by decide +kernel
theorem dX8_best_61 : decode cX8_best 61 = .ok (.if_icmp .le 9, 3) := by decide +kernel
theorem dX8_best_64 : decode cX8_best 64 = .ok (.iload 4, 2) := by decide +kernel
theorem dX8_best_66 : decode cX8_best 66 = .ok (.istore_n 2, 1) := by decide +kernel
theorem dX8_best_67 : decode cX8_best 67 = .ok (.iload 5, 2) := by decide +kernel
theorem dX8_best_69 : decode cX8_best 69 = .ok (.istore_n 3, 1) := by decide +kernel
theorem dX8_best_70 : decode cX8_best 70 = .ok (.iinc 4 1, 3) := by decide +kernel
theorem dX8_best_73 : decode cX8_best 73 = .ok (.goto (-51), 3) := by decide +kernel
theorem dX8_best_76 : decode cX8_best 76 = .ok (.iload_n 2, 1) := by decide +kernel
theorem dX8_best_77 : decode cX8_best 77 = .ok (.ireturn, 1) := by decide +kernel
theorem dX8_claim_0 : decode cX8_claim 0 = .ok (.aload_n 0, 1) := by decide +kernel
theorem dX8_claim_1 : decode cX8_claim 1 = .ok (.iload_n 1, 1) := by decide +kernel
theorem dX8_claim_2 : decode cX8_claim 2 = .ok (.invokevirtual 168, 3) := by decide +kernel
theorem dX8_claim_5 : decode cX8_claim 5 = .ok (.ifCond .ne 10, 3) := by decide +kernel
theorem dX8_claim_8 : decode cX8_claim 8 = .ok (.aload_n 0, 1) := by decide +kernel
theorem dX8_claim_9 : decode cX8_claim 9 = .ok (.bipush (-3), 2) := by decide +kernel
theorem dX8_claim_11 : decode cX8_claim 11 = .ok (.invokevirtual 148, 3) := by decide +kernel
theorem dX8_claim_14 : decode cX8_claim 14 = .ok (.ireturn, 1) := by decide +kernel
theorem dX8_claim_15 : decode cX8_claim 15 = .ok (.iload_n 2, 1) := by decide +kernel
theorem dX8_claim_16 : decode cX8_claim 16 = .ok (.ifCond .lt 8, 3) := by decide +kernel
theorem dX8_claim_19 : decode cX8_claim 19 = .ok (.iload_n 2, 1) := by decide +kernel
theorem dX8_claim_20 : decode cX8_claim 20 = .ok (.iconst 2, 1) := by decide +kernel
theorem dX8_claim_21 : decode cX8_claim 21 = .ok (.if_icmp .le 12, 3) := by decide +kernel
theorem dX8_claim_24 : decode cX8_claim 24 = .ok (.aload_n 0, 1) := by decide +kernel
theorem dX8_claim_25 : decode cX8_claim 25 = .ok (.bipush (-7), 2) := by decide +kernel
theorem dX8_claim_27 : decode cX8_claim 27 = .ok (.invokevirtual 148, 3) := by decide +kernel
theorem dX8_claim_30 : decode cX8_claim 30 = .ok (.goto 13, 3) := by decide +kernel
theorem dX8_claim_33 : decode cX8_claim 33 = .ok (.aload_n 0, 1) := by decide +kernel
theorem dX8_claim_34 : decode cX8_claim 34 = .ok (.getfield 75, 3) := by decide +kernel
theorem dX8_claim_37 : decode cX8_claim 37 = .ok (.iconst 3, 1) := by decide +kernel
theorem dX8_claim_38 : decode cX8_claim 38 = .ok (.iload_n 1, 1) := by decide +kernel
theorem dX8_claim_39 : decode cX8_claim 39 = .ok (.imul, 1) := by decide +kernel
theorem dX8_claim_40 : decode cX8_claim 40 = .ok (.iload_n 2, 1) := by decide +kernel
theorem dX8_claim_41 : decode cX8_claim 41 = .ok (.iadd, 1) := by decide +kernel
theorem dX8_claim_42 : decode cX8_claim 42 = .ok (.iaload, 1) := by decide +kernel
theorem dX8_claim_43 : decode cX8_claim 43 = .ok (.ireturn, 1) := by decide +kernel
theorem dX8_count_0 : decode cX8_count 0 = .ok (.iload_n 1, 1) := by decide +kernel
theorem dX8_count_1 : decode cX8_count 1 = .ok (.tableswitch 96 0 8 #[51, 56, 61, 66, 71, 76, 81, 86, 91], 51) := by decide +kernel
theorem dX8_count_52 : decode cX8_count 52 = .ok (.aload_n 0, 1) := by decide +kernel
theorem dX8_count_53 : decode cX8_count 53 = .ok (.getfield 262, 3) := by decide +kernel
theorem dX8_count_56 : decode cX8_count 56 = .ok (.ireturn, 1) := by decide +kernel
theorem dX8_count_57 : decode cX8_count 57 = .ok (.aload_n 0, 1) := by decide +kernel
theorem dX8_count_58 : decode cX8_count 58 = .ok (.getfield 7, 3) := by decide +kernel
theorem dX8_count_61 : decode cX8_count 61 = .ok (.ireturn, 1) := by decide +kernel
theorem dX8_count_62 : decode cX8_count 62 = .ok (.aload_n 0, 1) := by decide +kernel
theorem dX8_count_63 : decode cX8_count 63 = .ok (.getfield 145, 3) := by decide +kernel
theorem dX8_count_66 : decode cX8_count 66 = .ok (.ireturn, 1) := by decide +kernel
theorem dX8_count_67 : decode cX8_count 67 = .ok (.aload_n 0, 1) := by decide +kernel
theorem dX8_count_68 : decode cX8_count 68 = .ok (.getfield 233, 3) := by decide +kernel
theorem dX8_count_71 : decode cX8_count 71 = .ok (.ireturn, 1) := by decide +kernel
theorem dX8_count_72 : decode cX8_count 72 = .ok (.aload_n 0, 1) := by decide +kernel
theorem dX8_count_73 : decode cX8_count 73 = .ok (.getfield 185, 3) := by decide +kernel
theorem dX8_count_76 : decode cX8_count 76 = .ok (.ireturn, 1) := by decide +kernel
theorem dX8_count_77 : decode cX8_count 77 = .ok (.aload_n 0, 1) := by decide +kernel
theorem dX8_count_78 : decode cX8_count 78 = .ok (.getfield 171, 3) := by decide +kernel
theorem dX8_count_81 : decode cX8_count 81 = .ok (.ireturn, 1) := by decide +kernel
theorem dX8_count_82 : decode cX8_count 82 = .ok (.aload_n 0, 1) := by decide +kernel
theorem dX8_count_83 : decode cX8_count 83 = .ok (.getfield 253, 3) := by decide +kernel
theorem dX8_count_86 : decode cX8_count 86 = .ok (.ireturn, 1) := by decide +kernel
theorem dX8_count_87 : decode cX8_count 87 = .ok (.aload_n 0, 1) := by decide +kernel
theorem dX8_count_88 : decode cX8_count 88 = .ok (.getfield 280, 3) := by decide +kernel
theorem dX8_count_91 : decode cX8_count 91 = .ok (.ireturn, 1) := by decide +kernel
theorem dX8_count_92 : decode cX8_count 92 = .ok (.aload_n 0, 1) := by decide +kernel
theorem dX8_count_93 : decode cX8_count 93 = .ok (.getfield 283, 3) := by decide +kernel
theorem dX8_count_96 : decode cX8_count 96 = .ok (.ireturn, 1) := by decide +kernel
theorem dX8_count_97 : decode cX8_count 97 = .ok (.aload_n 0, 1) := by decide +kernel
theorem dX8_count_98 : decode cX8_count 98 = .ok (.bipush (-7), 2) := by decide +kernel
theorem dX8_count_100 : decode cX8_count 100 = .ok (.invokevirtual 148, 3) := by decide +kernel
theorem dX8_count_103 : decode cX8_count 103 = .ok (.ireturn, 1) := by decide +kernel
theorem dX8_at_0 : decode cX8_at 0 = .ok (.aload_n 0, 1) := by decide +kernel
theorem dX8_at_1 : decode cX8_at 1 = .ok (.iload_n 1, 1) := by decide +kernel
theorem dX8_at_2 : decode cX8_at 2 = .ok (.invokevirtual 152, 3) := by decide +kernel
theorem dX8_at_5 : decode cX8_at 5 = .ok (.ifCond .ne 10, 3) := by decide +kernel
theorem dX8_at_8 : decode cX8_at 8 = .ok (.aload_n 0, 1) := by decide +kernel
theorem dX8_at_9 : decode cX8_at 9 = .ok (.bipush (-3), 2) := by decide +kernel
theorem dX8_at_11 : decode cX8_at 11 = .ok (.invokevirtual 148, 3) := by decide +kernel
