theorem hc_0 : cd 0 = cX0_begin := rfl
theorem hc_1 : cd 1 = cX0_goes := rfl
theorem hc_2 : cd 2 = cX0_isOnLeg := rfl
theorem hc_3 : cd 3 = cX0_canHeadFor := rfl
theorem hc_4 : cd 4 = cX0_setOff := rfl
theorem hc_5 : cd 5 = cX0_nextStation := rfl
theorem hc_6 : cd 6 = cX0_greatestHeat := rfl
theorem hc_7 : cd 7 = cX0_useIce := rfl
theorem hc_8 : cd 8 = cX0_warmTiers := rfl
theorem hc_9 : cd 9 = cX0_addClaim := rfl
theorem hc_10 : cd 10 = cX0_priceOfLoads := rfl
theorem hc_11 : cd 11 = cX0_unload := rfl
theorem hc_12 : cd 12 = cX0_becomeLike := rfl
theorem hc_13 : cd 13 = cX1_putIn := rfl
theorem hc_14 : cd 14 = cX1_beginHour := rfl
theorem hc_15 : cd 15 = cX1_giveByGang := rfl
theorem hc_16 : cd 16 = cX1_becomeLike := rfl
theorem hc_17 : cd 17 = cX2_put := rfl
theorem hc_18 : cd 18 = cX3_holds := rfl
theorem hc_19 : cd 19 = cX3_isSo := rfl
theorem hc_20 : cd 20 = cX4_closeGaps := rfl
theorem hc_21 : cd 21 = cX4_weatherIn := rfl
theorem hc_22 : cd 22 = cX4_bringsNow := rfl
theorem hc_23 : cd 23 = cX4_salesOfLatestHours := rfl
theorem hc_24 : cd 24 = cX4_noteSale := rfl
theorem hc_25 : cd 25 = cX5_readRule := rfl
theorem hc_26 : cd 26 = cX5_takeHead := rfl
theorem hc_27 : cd 27 = cX5_nextByte := rfl
theorem hc_28 : cd 28 = cX5_takeWord := rfl
theorem hc_29 : cd 29 = cX5_takeNumber := rfl
theorem hc_30 : cd 30 = cX5_isDigit := rfl
theorem hc_31 : cd 31 = cX5_takeTest := rfl
theorem hc_32 : cd 32 = cX5_fieldThatBegins := rfl
theorem hc_33 : cd 33 = cX5_wordOf := rfl
theorem hc_34 : cd 34 = cX6_isLoaded := rfl
theorem hc_35 : cd 35 = cX6_putOn := rfl
theorem hc_36 : cd 36 = cX6_ofLoad := rfl
theorem hc_37 : cd 37 = cX6_liveHour := rfl
theorem hc_38 : cd 38 = cX6_lossOfHour := rfl
theorem hc_39 : cd 39 = cX6_lossAt := rfl
theorem hc_40 : cd 40 = cX6_ripen := rfl
theorem hc_41 : cd 41 = cX6_takeOff := rfl
theorem hc_42 : cd 42 = cX6_becomeLike := rfl
theorem hc_43 : cd 43 = cX7_station := rfl
theorem hc_44 : cd 44 = cX7_within := rfl
theorem hc_45 : cd 45 = cX7_refuse := rfl
theorem hc_46 : cd 46 = cX7_stock := rfl
theorem hc_47 : cd 47 = cX7_isStation := rfl
theorem hc_48 : cd 48 = cX7_gang := rfl
theorem hc_49 : cd 49 = cX7_price := rfl
theorem hc_50 : cd 50 = cX7_weather := rfl
theorem hc_51 : cd 51 = cX7_refuseByZero := rfl
theorem hc_52 : cd 52 = cX7_isHeat := rfl
theorem hc_53 : cd 53 = cX7_read := rfl
theorem hc_54 : cd 54 = cX7_out := rfl
theorem hc_55 : cd 55 = cX7_loss := rfl
theorem hc_56 : cd 56 = cX7_car := rfl
theorem hc_57 : cd 57 = cX7_load := rfl
theorem hc_58 : cd 58 = cX7_isCar := rfl
theorem hc_59 : cd 59 = cX7_tier := rfl
theorem hc_60 : cd 60 = cX7_fill := rfl
theorem hc_61 : cd 61 = cX7_vent := rfl
theorem hc_62 : cd 62 = cX7_send := rfl
theorem hc_63 : cd 63 = cX7_hoursLeft := rfl
theorem hc_64 : cd 64 = cX7_turn := rfl
theorem hc_65 : cd 65 = cX7_late := rfl
theorem hc_66 : cd 66 = cX7_look := rfl
theorem hc_67 : cd 67 = cX7_feed := rfl
theorem hc_68 : cd 68 = cX7_wipe := rfl
theorem hc_69 : cd 69 = cX7_rule := rfl
theorem hc_70 : cd 70 = cX7_run := rfl
theorem hc_71 : cd 71 = cX7_passHour := rfl
theorem hc_72 : cd 72 = cX7_outsideOf := rfl
theorem hc_73 : cd 73 = cX7_obeyRules := rfl
theorem hc_74 : cd 74 = cX7_lastThatHolds := rfl
theorem hc_75 : cd 75 = cX7_moveOn := rfl
theorem hc_76 : cd 76 = cX7_legBetween := rfl
theorem hc_77 : cd 77 = cX7_sell := rfl
theorem hc_78 : cd 78 = cX7_worth := rfl
theorem hc_79 : cd 79 = cX7_couldSellAt := rfl
theorem hc_80 : cd 80 = cX7_tryOut := rfl
theorem hc_81 : cd 81 = cX7_best := rfl
theorem hc_82 : cd 82 = cX7_claim := rfl
theorem hc_83 : cd 83 = cX7_count := rfl
theorem hc_84 : cd 84 = cX7_at := rfl
theorem hc_85 : cd 85 = cX7_tell := rfl
theorem hc_86 : cd 86 = cX7_tear := rfl
theorem hc_87 : cd 87 = cX7_row := rfl
theorem hc_88 : cd 88 = cX7_copy := rfl
theorem hc_89 : cd 89 = cX7_status := rfl
theorem hc_90 : cd 90 = cX8_fresh := rfl
theorem hc_91 : cd 91 = cX8_station := rfl
theorem hc_92 : cd 92 = cX8_refuse := rfl
theorem hc_93 : cd 93 = cX8_stock := rfl
theorem hc_94 : cd 94 = cX8_isStation := rfl
theorem hc_95 : cd 95 = cX8_gang := rfl
theorem hc_96 : cd 96 = cX8_price := rfl
theorem hc_97 : cd 97 = cX8_weather := rfl
theorem hc_98 : cd 98 = cX8_zero := rfl
theorem hc_99 : cd 99 = cX8_read := rfl
theorem hc_100 : cd 100 = cX8_out := rfl
theorem hc_101 : cd 101 = cX8_outAt := rfl
theorem hc_102 : cd 102 = cX8_loss := rfl
theorem hc_103 : cd 103 = cX8_car := rfl
theorem hc_104 : cd 104 = cX8_load := rfl
theorem hc_105 : cd 105 = cX8_isCar := rfl
theorem hc_106 : cd 106 = cX8_tier := rfl
theorem hc_107 : cd 107 = cX8_fill := rfl
theorem hc_108 : cd 108 = cX8_vent := rfl
theorem hc_109 : cd 109 = cX8_send := rfl
theorem hc_110 : cd 110 = cX8_sends := rfl
theorem hc_111 : cd 111 = cX8_legs := rfl
theorem hc_112 : cd 112 = cX8_turn := rfl
theorem hc_113 : cd 113 = cX8_mayTurn := rfl
theorem hc_114 : cd 114 = cX8_late := rfl
theorem hc_115 : cd 115 = cX8_look := rfl
theorem hc_116 : cd 116 = cX8_feed := rfl
theorem hc_117 : cd 117 = cX8_wipe := rfl
theorem hc_118 : cd 118 = cX8_rule := rfl
theorem hc_119 : cd 119 = cX8_reads := rfl
theorem hc_120 : cd 120 = cX8_byteAt := rfl
theorem hc_121 : cd 121 = cX8_expect := rfl
theorem hc_122 : cd 122 = cX8_number := rfl
theorem hc_123 : cd 123 = cX8_fieldNow := rfl
theorem hc_124 : cd 124 = cX8_run := rfl
theorem hc_125 : cd 125 = cX8_gangsRest := rfl
theorem hc_126 : cd 126 = cX8_lives := rfl
theorem hc_127 : cd 127 = cX8_obeys := rfl
theorem hc_128 : cd 128 = cX8_holds := rfl
theorem hc_129 : cd 129 = cX8_outside := rfl
theorem hc_130 : cd 130 = cX8_loses := rfl
theorem hc_131 : cd 131 = cX8_lossAt := rfl
theorem hc_132 : cd 132 = cX8_sell := rfl
theorem hc_133 : cd 133 = cX8_brings := rfl
theorem hc_134 : cd 134 = cX8_soldLately := rfl
theorem hc_135 : cd 135 = cX8_worth := rfl
theorem hc_136 : cd 136 = cX8_mayTry := rfl
theorem hc_137 : cd 137 = cX8_tried := rfl
theorem hc_138 : cd 138 = cX8_best := rfl
theorem hc_139 : cd 139 = cX8_claim := rfl
theorem hc_140 : cd 140 = cX8_count := rfl
theorem hc_141 : cd 141 = cX8_at := rfl
theorem hc_142 : cd 142 = cX8_tell := rfl
theorem hc_143 : cd 143 = cX8_tear := rfl
theorem hc_144 : cd 144 = cX8_row := rfl
theorem hc_145 : cd 145 = cX8_copy := rfl
theorem hc_146 : cd 146 = cX8_status := rfl
theorem hc_147 : cd 147 = cJ9_floorMod_7cf53 := rfl
theorem hc_148 : cd 148 = cJ9_min_7cf53 := rfl
theorem hc_149 : cd 149 = cJ9_max_7cf53 := rfl
theorem hc_150 : cd 150 = cJ7_fill_53178 := rfl
theorem fr_0_11 : fr 0 11 = some (0, 0) := by decide +kernel
theorem fr_0_17 : fr 0 17 = some (0, 1) := by decide +kernel
theorem fr_0_21 : fr 0 21 = some (0, 3) := by decide +kernel
theorem fr_0_25 : fr 0 25 = some (0, 4) := by decide +kernel
theorem fr_0_28 : fr 0 28 = some (0, 5) := by decide +kernel
theorem fr_0_31 : fr 0 31 = some (0, 6) := by decide +kernel
theorem fr_0_34 : fr 0 34 = some (0, 7) := by decide +kernel
theorem fr_0_37 : fr 0 37 = some (0, 8) := by decide +kernel
theorem fr_0_40 : fr 0 40 = some (0, 9) := by decide +kernel
theorem fr_0_46 : fr 0 46 = some (0, 11) := by decide +kernel
theorem fr_0_50 : fr 0 50 = some (0, 12) := by decide +kernel
theorem fr_0_53 : fr 0 53 = some (0, 13) := by decide +kernel
theorem fr_0_56 : fr 0 56 = some (0, 2) := by decide +kernel
theorem fr_0_60 : fr 0 60 = some (6, 0) := by decide +kernel
theorem fr_0_86 : fr 0 86 = some (6, 2) := by decide +kernel
theorem fr_0_89 : fr 0 89 = some (6, 3) := by decide +kernel
theorem fr_1_9 : fr 1 9 = some (1, 0) := by decide +kernel
theorem fr_1_15 : fr 1 15 = some (1, 1) := by decide +kernel
theorem fr_1_18 : fr 1 18 = some (1, 2) := by decide +kernel
theorem fr_1_31 : fr 1 31 = some (0, 6) := by decide +kernel
theorem fr_1_36 : fr 1 36 = some (0, 4) := by decide +kernel
theorem fr_1_49 : fr 1 49 = some (0, 10) := by decide +kernel
theorem fr_2_9 : fr 2 9 = some (2, 0) := by decide +kernel
theorem fr_2_15 : fr 2 15 = some (2, 1) := by decide +kernel
theorem fr_3_9 : fr 3 9 = some (3, 0) := by decide +kernel
theorem fr_3_13 : fr 3 13 = some (3, 1) := by decide +kernel
theorem fr_3_16 : fr 3 16 = some (3, 2) := by decide +kernel
theorem fr_3_27 : fr 3 27 = some (3, 5) := by decide +kernel
theorem fr_3_30 : fr 3 30 = some (3, 6) := by decide +kernel
theorem fr_3_33 : fr 3 33 = some (3, 7) := by decide +kernel
theorem fr_4_9 : fr 4 9 = some (4, 0) := by decide +kernel
theorem fr_4_15 : fr 4 15 = some (4, 1) := by decide +kernel
theorem fr_4_18 : fr 4 18 = some (4, 2) := by decide +kernel
theorem fr_4_21 : fr 4 21 = some (4, 3) := by decide +kernel
theorem fr_4_28 : fr 4 28 = some (4, 5) := by decide +kernel
theorem fr_5_11 : fr 5 11 = some (5, 0) := by decide +kernel
theorem fr_5_15 : fr 5 15 = some (5, 1) := by decide +kernel
theorem fr_5_19 : fr 5 19 = some (5, 2) := by decide +kernel
theorem fr_5_22 : fr 5 22 = some (3, 5) := by decide +kernel
theorem fr_5_46 : fr 5 46 = some (3, 3) := by decide +kernel
theorem fr_5_57 : fr 5 57 = some (3, 4) := by decide +kernel
theorem fr_5_68 : fr 5 68 = some (3, 0) := by decide +kernel
theorem fr_5_71 : fr 5 71 = some (3, 1) := by decide +kernel
theorem fr_5_74 : fr 5 74 = some (3, 2) := by decide +kernel
theorem fr_6_9 : fr 6 9 = some (6, 0) := by decide +kernel
theorem fr_6_15 : fr 6 15 = some (6, 1) := by decide +kernel
theorem fr_6_18 : fr 6 18 = some (6, 2) := by decide +kernel
theorem fr_6_21 : fr 6 21 = some (6, 3) := by decide +kernel
theorem fr_6_24 : fr 6 24 = some (6, 4) := by decide +kernel
theorem fr_6_27 : fr 6 27 = some (6, 5) := by decide +kernel
theorem fr_7_11 : fr 7 11 = some (7, 0) := by decide +kernel
theorem fr_7_17 : fr 7 17 = some (7, 1) := by decide +kernel
theorem fr_7_23 : fr 7 23 = some (7, 2) := by decide +kernel
theorem fr_7_30 : fr 7 30 = some (7, 3) := by decide +kernel
theorem fr_7_37 : fr 7 37 = some (7, 4) := by decide +kernel
theorem fr_7_44 : fr 7 44 = some (7, 5) := by decide +kernel
theorem fr_7_57 : fr 7 57 = some (7, 6) := by decide +kernel
theorem fr_7_60 : fr 7 60 = some (7, 7) := by decide +kernel
theorem fr_7_63 : fr 7 63 = some (7, 8) := by decide +kernel
theorem fr_7_69 : fr 7 69 = some (7, 9) := by decide +kernel
theorem fr_7_73 : fr 7 73 = some (7, 10) := by decide +kernel
theorem fr_7_76 : fr 7 76 = some (7, 11) := by decide +kernel
theorem fr_7_80 : fr 7 80 = some (7, 12) := by decide +kernel
theorem fr_7_83 : fr 7 83 = some (7, 13) := by decide +kernel
theorem fr_7_86 : fr 7 86 = some (7, 14) := by decide +kernel
theorem fr_7_89 : fr 7 89 = some (7, 15) := by decide +kernel
theorem fr_7_92 : fr 7 92 = some (7, 16) := by decide +kernel
theorem fr_7_97 : fr 7 97 = some (4, 7) := by decide +kernel
theorem fr_7_112 : fr 7 112 = some (1, 0) := by decide +kernel
theorem fr_7_116 : fr 7 116 = some (4, 4) := by decide +kernel
theorem fr_7_119 : fr 7 119 = some (4, 5) := by decide +kernel
theorem fr_7_128 : fr 7 128 = some (4, 0) := by decide +kernel
theorem fr_7_134 : fr 7 134 = some (2, 1) := by decide +kernel
theorem fr_7_138 : fr 7 138 = some (2, 0) := by decide +kernel
theorem fr_7_153 : fr 7 153 = some (0, 0) := by decide +kernel
theorem fr_7_164 : fr 7 164 = some (6, 0) := by decide +kernel
theorem fr_7_177 : fr 7 177 = some (0, 4) := by decide +kernel
theorem fr_7_179 : fr 7 179 = some (0, 6) := by decide +kernel
theorem fr_7_186 : fr 7 186 = some (0, 5) := by decide +kernel
theorem fr_7_192 : fr 7 192 = some (4, 6) := by decide +kernel
theorem fr_7_203 : fr 7 203 = some (0, 7) := by decide +kernel
theorem fr_7_206 : fr 7 206 = some (0, 8) := by decide +kernel
theorem fr_7_209 : fr 7 209 = some (0, 9) := by decide +kernel
theorem fr_7_212 : fr 7 212 = some (0, 10) := by decide +kernel
theorem fr_7_215 : fr 7 215 = some (0, 12) := by decide +kernel
theorem fr_7_218 : fr 7 218 = some (5, 1) := by decide +kernel
theorem fr_7_221 : fr 7 221 = some (5, 0) := by decide +kernel
theorem fr_7_228 : fr 7 228 = some (3, 6) := by decide +kernel
theorem fr_7_231 : fr 7 231 = some (3, 7) := by decide +kernel
theorem fr_7_258 : fr 7 258 = some (0, 1) := by decide +kernel
theorem fr_7_261 : fr 7 261 = some (1, 2) := by decide +kernel
theorem fr_7_264 : fr 7 264 = some (1, 3) := by decide +kernel
theorem fr_7_313 : fr 7 313 = some (0, 2) := by decide +kernel
theorem fr_7_324 : fr 7 324 = some (0, 11) := by decide +kernel
theorem fr_7_327 : fr 7 327 = some (3, 3) := by decide +kernel
theorem fr_7_334 : fr 7 334 = some (3, 4) := by decide +kernel
theorem fr_8_7 : fr 8 7 = some (8, 1) := by decide +kernel
theorem fr_8_13 : fr 8 13 = some (8, 9) := by decide +kernel
theorem fr_8_17 : fr 8 17 = some (8, 10) := by decide +kernel
theorem fr_8_20 : fr 8 20 = some (8, 11) := by decide +kernel
theorem fr_8_23 : fr 8 23 = some (8, 12) := by decide +kernel
theorem fr_8_26 : fr 8 26 = some (8, 13) := by decide +kernel
theorem fr_8_29 : fr 8 29 = some (8, 14) := by decide +kernel
theorem fr_8_32 : fr 8 32 = some (8, 15) := by decide +kernel
theorem fr_8_35 : fr 8 35 = some (8, 16) := by decide +kernel
theorem fr_8_38 : fr 8 38 = some (8, 17) := by decide +kernel
theorem fr_8_41 : fr 8 41 = some (8, 18) := by decide +kernel
theorem fr_8_44 : fr 8 44 = some (8, 19) := by decide +kernel
theorem fr_8_47 : fr 8 47 = some (8, 20) := by decide +kernel
theorem fr_8_50 : fr 8 50 = some (8, 21) := by decide +kernel
theorem fr_8_53 : fr 8 53 = some (8, 22) := by decide +kernel
theorem fr_8_56 : fr 8 56 = some (8, 23) := by decide +kernel
theorem fr_8_59 : fr 8 59 = some (8, 24) := by decide +kernel
theorem fr_8_62 : fr 8 62 = some (8, 25) := by decide +kernel
theorem fr_8_65 : fr 8 65 = some (8, 26) := by decide +kernel
theorem fr_8_68 : fr 8 68 = some (8, 27) := by decide +kernel
theorem fr_8_72 : fr 8 72 = some (8, 28) := by decide +kernel
theorem fr_8_75 : fr 8 75 = some (8, 29) := by decide +kernel
theorem fr_8_78 : fr 8 78 = some (8, 30) := by decide +kernel
theorem fr_8_81 : fr 8 81 = some (8, 31) := by decide +kernel
theorem fr_8_84 : fr 8 84 = some (8, 32) := by decide +kernel
theorem fr_8_87 : fr 8 87 = some (8, 33) := by decide +kernel
theorem fr_8_90 : fr 8 90 = some (8, 34) := by decide +kernel
theorem fr_8_93 : fr 8 93 = some (8, 35) := by decide +kernel
theorem fr_8_96 : fr 8 96 = some (8, 36) := by decide +kernel
theorem fr_8_99 : fr 8 99 = some (8, 37) := by decide +kernel
theorem fr_8_102 : fr 8 102 = some (8, 39) := by decide +kernel
theorem fr_8_105 : fr 8 105 = some (8, 40) := by decide +kernel
theorem fr_8_108 : fr 8 108 = some (8, 41) := by decide +kernel
theorem fr_8_111 : fr 8 111 = some (8, 42) := by decide +kernel
theorem fr_8_114 : fr 8 114 = some (8, 43) := by decide +kernel
theorem fr_8_117 : fr 8 117 = some (8, 44) := by decide +kernel
theorem fr_8_120 : fr 8 120 = some (8, 45) := by decide +kernel
theorem fr_8_123 : fr 8 123 = some (8, 46) := by decide +kernel
theorem fr_8_126 : fr 8 126 = some (8, 47) := by decide +kernel
theorem fr_8_129 : fr 8 129 = some (8, 48) := by decide +kernel
theorem fr_8_132 : fr 8 132 = some (8, 49) := by decide +kernel
theorem fr_8_135 : fr 8 135 = some (8, 50) := by decide +kernel
theorem fr_8_138 : fr 8 138 = some (8, 54) := by decide +kernel
theorem fr_8_145 : fr 8 145 = some (8, 2) := by decide +kernel
theorem fr_8_160 : fr 8 160 = some (8, 51) := by decide +kernel
theorem fr_8_171 : fr 8 171 = some (8, 5) := by decide +kernel
theorem fr_8_185 : fr 8 185 = some (8, 4) := by decide +kernel
theorem fr_8_194 : fr 8 194 = some (8, 53) := by decide +kernel
theorem fr_8_197 : fr 8 197 = some (8, 52) := by decide +kernel
theorem fr_8_233 : fr 8 233 = some (8, 3) := by decide +kernel
theorem fr_8_253 : fr 8 253 = some (8, 6) := by decide +kernel
theorem fr_8_262 : fr 8 262 = some (8, 0) := by decide +kernel
theorem fr_8_269 : fr 8 269 = some (8, 38) := by decide +kernel
theorem fr_8_280 : fr 8 280 = some (8, 7) := by decide +kernel
theorem fr_8_283 : fr 8 283 = some (8, 8) := by decide +kernel
theorem mr_0_63 : mr 0 63 = some 2 := by decide +kernel
theorem mr_0_67 : mr 0 67 = some 150 := by decide +kernel
theorem mr_0_73 : mr 0 73 = some 149 := by decide +kernel
theorem mr_0_79 : mr 0 79 = some 148 := by decide +kernel
theorem mr_0_82 : mr 0 82 = some 37 := by decide +kernel
theorem mr_0_92 : mr 0 92 = some 41 := by decide +kernel
theorem mr_0_95 : mr 0 95 = some 42 := by decide +kernel
theorem mr_1_25 : mr 1 25 = some 150 := by decide +kernel
theorem mr_1_39 : mr 1 39 = some 148 := by decide +kernel
theorem mr_1_45 : mr 1 45 = some 13 := by decide +kernel
theorem mr_2_19 : mr 2 19 = some 150 := by decide +kernel
theorem mr_3_36 : mr 3 36 = some 19 := by decide +kernel
theorem mr_4_43 : mr 4 43 = some 147 := by decide +kernel
theorem mr_4_49 : mr 4 49 = some 10 := by decide +kernel
theorem mr_4_55 : mr 4 55 = some 23 := by decide +kernel
theorem mr_4_58 : mr 4 58 = some 148 := by decide +kernel
theorem mr_5_27 : mr 5 27 = some 26 := by decide +kernel
theorem mr_5_35 : mr 5 35 = some 28 := by decide +kernel
theorem mr_5_39 : mr 5 39 = some 31 := by decide +kernel
theorem mr_5_42 : mr 5 42 = some 27 := by decide +kernel
theorem mr_5_54 : mr 5 54 = some 29 := by decide +kernel
theorem mr_5_60 : mr 5 60 = some 32 := by decide +kernel
theorem mr_5_64 : mr 5 64 = some 33 := by decide +kernel
theorem mr_5_85 : mr 5 85 = some 30 := by decide +kernel
theorem mr_5_89 : mr 5 89 = some 149 := by decide +kernel
theorem mr_6_31 : mr 6 31 = some 34 := by decide +kernel
theorem mr_6_35 : mr 6 35 = some 38 := by decide +kernel
theorem mr_6_39 : mr 6 39 = some 148 := by decide +kernel
theorem mr_6_45 : mr 6 45 = some 39 := by decide +kernel
theorem mr_6_49 : mr 6 49 = some 40 := by decide +kernel
theorem mr_6_52 : mr 6 52 = some 149 := by decide +kernel
theorem mr_7_100 : mr 7 100 = some 44 := by decide +kernel
theorem mr_7_104 : mr 7 104 = some 45 := by decide +kernel
theorem mr_7_108 : mr 7 108 = some 47 := by decide +kernel
theorem mr_7_122 : mr 7 122 = some 51 := by decide +kernel
theorem mr_7_125 : mr 7 125 = some 52 := by decide +kernel
theorem mr_7_131 : mr 7 131 = some 20 := by decide +kernel
theorem mr_7_141 : mr 7 141 = some 21 := by decide +kernel
theorem mr_7_144 : mr 7 144 = some 0 := by decide +kernel
theorem mr_7_148 : mr 7 148 = some 58 := by decide +kernel
theorem mr_7_157 : mr 7 157 = some 1 := by decide +kernel
theorem mr_7_161 : mr 7 161 = some 34 := by decide +kernel
theorem mr_7_167 : mr 7 167 = some 35 := by decide +kernel
theorem mr_7_171 : mr 7 171 = some 36 := by decide +kernel
theorem mr_7_174 : mr 7 174 = some 2 := by decide +kernel
theorem mr_7_182 : mr 7 182 = some 13 := by decide +kernel
theorem mr_7_189 : mr 7 189 = some 3 := by decide +kernel
theorem mr_7_195 : mr 7 195 = some 4 := by decide +kernel
theorem mr_7_199 : mr 7 199 = some 63 := by decide +kernel
theorem mr_7_224 : mr 7 224 = some 25 := by decide +kernel
theorem mr_7_234 : mr 7 234 = some 14 := by decide +kernel
theorem mr_7_237 : mr 7 237 = some 71 := by decide +kernel
theorem mr_7_241 : mr 7 241 = some 22 := by decide +kernel
theorem mr_7_245 : mr 7 245 = some 24 := by decide +kernel
theorem mr_7_248 : mr 7 248 = some 11 := by decide +kernel
theorem mr_7_251 : mr 7 251 = some 79 := by decide +kernel
theorem mr_7_255 : mr 7 255 = some 80 := by decide +kernel
theorem mr_7_267 : mr 7 267 = some 17 := by decide +kernel
theorem mr_7_276 : mr 7 276 = some 148 := by decide +kernel
theorem mr_7_282 : mr 7 282 = some 5 := by decide +kernel
theorem mr_7_286 : mr 7 286 = some 149 := by decide +kernel
theorem mr_7_289 : mr 7 289 = some 72 := by decide +kernel
theorem mr_7_292 : mr 7 292 = some 73 := by decide +kernel
theorem mr_7_296 : mr 7 296 = some 7 := by decide +kernel
theorem mr_7_299 : mr 7 299 = some 8 := by decide +kernel
theorem mr_7_303 : mr 7 303 = some 9 := by decide +kernel
theorem mr_7_306 : mr 7 306 = some 75 := by decide +kernel
theorem mr_7_310 : mr 7 310 = some 6 := by decide +kernel
theorem mr_7_316 : mr 7 316 = some 74 := by decide +kernel
theorem mr_7_320 : mr 7 320 = some 15 := by decide +kernel
theorem mr_7_330 : mr 7 330 = some 18 := by decide +kernel
theorem mr_7_335 : mr 7 335 = some 76 := by decide +kernel
theorem mr_7_338 : mr 7 338 = some 12 := by decide +kernel
theorem mr_7_342 : mr 7 342 = some 16 := by decide +kernel
theorem mr_8_148 : mr 8 148 = some 92 := by decide +kernel
theorem mr_8_152 : mr 8 152 = some 94 := by decide +kernel
theorem mr_8_157 : mr 8 157 = some 98 := by decide +kernel
theorem mr_8_164 : mr 8 164 = some 101 := by decide +kernel
theorem mr_8_168 : mr 8 168 = some 105 := by decide +kernel
theorem mr_8_174 : mr 8 174 = some 110 := by decide +kernel
theorem mr_8_178 : mr 8 178 = some 111 := by decide +kernel
theorem mr_8_181 : mr 8 181 = some 113 := by decide +kernel
theorem mr_8_200 : mr 8 200 = some 120 := by decide +kernel
theorem mr_8_215 : mr 8 215 = some 121 := by decide +kernel
theorem mr_8_223 : mr 8 223 = some 122 := by decide +kernel
theorem mr_8_230 : mr 8 230 = some 123 := by decide +kernel
theorem mr_8_236 : mr 8 236 = some 119 := by decide +kernel
theorem mr_8_239 : mr 8 239 = some 129 := by decide +kernel
theorem mr_8_242 : mr 8 242 = some 128 := by decide +kernel
theorem mr_8_246 : mr 8 246 = some 131 := by decide +kernel
theorem mr_8_249 : mr 8 249 = some 127 := by decide +kernel
theorem mr_8_256 : mr 8 256 = some 130 := by decide +kernel
theorem mr_8_259 : mr 8 259 = some 125 := by decide +kernel
theorem mr_8_265 : mr 8 265 = some 126 := by decide +kernel
theorem mr_8_274 : mr 8 274 = some 134 := by decide +kernel
theorem mr_8_277 : mr 8 277 = some 133 := by decide +kernel
theorem mr_8_286 : mr 8 286 = some 136 := by decide +kernel
theorem mr_8_289 : mr 8 289 = some 137 := by decide +kernel
theorem mn_1_52 : mr 1 52 = none := by decide +kernel
theorem pr_1_52 : pr 1 52 = some 2 := by decide +kernel
theorem mn_5_77 : mr 5 77 = none := by decide +kernel
theorem pr_5_77 : pr 5 77 = some 0 := by decide +kernel
theorem mn_5_81 : mr 5 81 = none := by decide +kernel
theorem pr_5_81 : pr 5 81 = some 1 := by decide +kernel
theorem mn_7_270 : mr 7 270 = none := by decide +kernel
theorem pr_7_270 : pr 7 270 = some 2 := by decide +kernel
theorem mn_8_188 : mr 8 188 = none := by decide +kernel
theorem pr_8_188 : pr 8 188 = some 0 := by decide +kernel
theorem mn_8_203 : mr 8 203 = none := by decide +kernel
theorem pr_8_203 : pr 8 203 = some 1 := by decide +kernel
