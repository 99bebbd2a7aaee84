/-! methods by their numbers; the links of the constant pools; the layout of the objects -/
abbrev Hp : Type := Nat → Nat → Int32
def nM : Nat := 151
def mN (y : Nat) : MethodName := ([yX0_begin, yX0_goes, yX0_isOnLeg, yX0_canHeadFor, yX0_setOff, yX0_nextStation, yX0_greatestHeat, yX0_useIce, yX0_warmTiers, yX0_addClaim, yX0_priceOfLoads, yX0_unload, yX0_becomeLike, yX1_putIn, yX1_beginHour, yX1_giveByGang, yX1_becomeLike, yX2_put, yX3_holds, yX3_isSo, yX4_closeGaps, yX4_weatherIn, yX4_bringsNow, yX4_salesOfLatestHours, yX4_noteSale, yX5_readRule, yX5_takeHead, yX5_nextByte, yX5_takeWord, yX5_takeNumber, yX5_isDigit, yX5_takeTest, yX5_fieldThatBegins, yX5_wordOf, yX6_isLoaded, yX6_putOn, yX6_ofLoad, yX6_liveHour, yX6_lossOfHour, yX6_lossAt, yX6_ripen, yX6_takeOff, yX6_becomeLike, yX7_station, yX7_within, yX7_refuse, yX7_stock, yX7_isStation, yX7_gang, yX7_price, yX7_weather, yX7_refuseByZero, yX7_isHeat, yX7_read, yX7_out, yX7_loss, yX7_car, yX7_load, yX7_isCar, yX7_tier, yX7_fill, yX7_vent, yX7_send, yX7_hoursLeft, yX7_turn, yX7_late, yX7_look, yX7_feed, yX7_wipe, yX7_rule, yX7_run, yX7_passHour, yX7_outsideOf, yX7_obeyRules, yX7_lastThatHolds, yX7_moveOn, yX7_legBetween, yX7_sell, yX7_worth, yX7_couldSellAt, yX7_tryOut, yX7_best, yX7_claim, yX7_count, yX7_at, yX7_tell, yX7_tear, yX7_row, yX7_copy, yX7_status, yX8_fresh, yX8_station, yX8_refuse, yX8_stock, yX8_isStation, yX8_gang, yX8_price, yX8_weather, yX8_zero, yX8_read, yX8_out, yX8_outAt, yX8_loss, yX8_car, yX8_load, yX8_isCar, yX8_tier, yX8_fill, yX8_vent, yX8_send, yX8_sends, yX8_legs, yX8_turn, yX8_mayTurn, yX8_late, yX8_look, yX8_feed, yX8_wipe, yX8_rule, yX8_reads, yX8_byteAt, yX8_expect, yX8_number, yX8_fieldNow, yX8_run, yX8_gangsRest, yX8_lives, yX8_obeys, yX8_holds, yX8_outside, yX8_loses, yX8_lossAt, yX8_sell, yX8_brings, yX8_soldLately, yX8_worth, yX8_mayTry, yX8_tried, yX8_best, yX8_claim, yX8_count, yX8_at, yX8_tell, yX8_tear, yX8_row, yX8_copy, yX8_status, yJ9_floorMod_7cf53, yJ9_min_7cf53, yJ9_max_7cf53, yJ7_fill_53178] : List MethodName).getD y ⟨"", "", ""⟩
def cd (y : Nat) : ByteArray := ([cX0_begin, cX0_goes, cX0_isOnLeg, cX0_canHeadFor, cX0_setOff, cX0_nextStation, cX0_greatestHeat, cX0_useIce, cX0_warmTiers, cX0_addClaim, cX0_priceOfLoads, cX0_unload, cX0_becomeLike, cX1_putIn, cX1_beginHour, cX1_giveByGang, cX1_becomeLike, cX2_put, cX3_holds, cX3_isSo, cX4_closeGaps, cX4_weatherIn, cX4_bringsNow, cX4_salesOfLatestHours, cX4_noteSale, cX5_readRule, cX5_takeHead, cX5_nextByte, cX5_takeWord, cX5_takeNumber, cX5_isDigit, cX5_takeTest, cX5_fieldThatBegins, cX5_wordOf, cX6_isLoaded, cX6_putOn, cX6_ofLoad, cX6_liveHour, cX6_lossOfHour, cX6_lossAt, cX6_ripen, cX6_takeOff, cX6_becomeLike, cX7_station, cX7_within, cX7_refuse, cX7_stock, cX7_isStation, cX7_gang, cX7_price, cX7_weather, cX7_refuseByZero, cX7_isHeat, cX7_read, cX7_out, cX7_loss, cX7_car, cX7_load, cX7_isCar, cX7_tier, cX7_fill, cX7_vent, cX7_send, cX7_hoursLeft, cX7_turn, cX7_late, cX7_look, cX7_feed, cX7_wipe, cX7_rule, cX7_run, cX7_passHour, cX7_outsideOf, cX7_obeyRules, cX7_lastThatHolds, cX7_moveOn, cX7_legBetween, cX7_sell, cX7_worth, cX7_couldSellAt, cX7_tryOut, cX7_best, cX7_claim, cX7_count, cX7_at, cX7_tell, cX7_tear, cX7_row, cX7_copy, cX7_status, cX8_fresh, cX8_station, cX8_refuse, cX8_stock, cX8_isStation, cX8_gang, cX8_price, cX8_weather, cX8_zero, cX8_read, cX8_out, cX8_outAt, cX8_loss, cX8_car, cX8_load, cX8_isCar, cX8_tier, cX8_fill, cX8_vent, cX8_send, cX8_sends, cX8_legs, cX8_turn, cX8_mayTurn, cX8_late, cX8_look, cX8_feed, cX8_wipe, cX8_rule, cX8_reads, cX8_byteAt, cX8_expect, cX8_number, cX8_fieldNow, cX8_run, cX8_gangsRest, cX8_lives, cX8_obeys, cX8_holds, cX8_outside, cX8_loses, cX8_lossAt, cX8_sell, cX8_brings, cX8_soldLately, cX8_worth, cX8_mayTry, cX8_tried, cX8_best, cX8_claim, cX8_count, cX8_at, cX8_tell, cX8_tear, cX8_row, cX8_copy, cX8_status, cJ9_floorMod_7cf53, cJ9_min_7cf53, cJ9_max_7cf53, cJ7_fill_53178] : List ByteArray).getD y ⟨#[]⟩
def mL (y : Nat) : Nat := ([5, 1, 1, 2, 3, 1, 3, 3, 8, 3, 4, 2, 3, 3, 1, 6, 2, 3, 4, 3, 3, 2, 5, 4, 3, 3, 2, 1, 3, 3, 1, 6, 1, 1, 1, 5, 2, 3, 2, 2, 1, 1, 2, 2, 3, 2, 3, 2, 4, 4, 6, 2, 1, 6, 3, 4, 4, 10, 2, 5, 4, 4, 4, 5, 4, 4, 4, 4, 2, 5, 5, 6, 4, 8, 5, 3, 3, 5, 3, 3, 5, 6, 3, 2, 4, 3, 2, 2, 4, 2, 3, 2, 2, 3, 2, 4, 4, 5, 2, 5, 3, 5, 4, 6, 9, 2, 5, 3, 4, 3, 4, 5, 3, 3, 4, 3, 4, 2, 3, 6, 2, 3, 3, 3, 5, 2, 9, 8, 10, 3, 4, 3, 4, 6, 4, 3, 3, 9, 6, 3, 2, 3, 3, 3, 2, 5, 2, 3, 2, 2, 4] : List Nat).getD y 0
def rT (y : Nat) : Option FieldType := ([none, some .boolean, some .boolean, some .boolean, none, some .int, some .int, some .int, some .int, none, some .int, none, none, none, none, some .int, none, none, some .boolean, some .boolean, none, some .int, some .int, some .int, none, some .int, some .boolean, some .int, some .boolean, some .int, some .boolean, some .boolean, some .int, some (.object "java/lang/String"), some .boolean, none, some .int, some .int, some .int, some .int, some .boolean, none, none, some .int, some .boolean, some .int, some .int, some .boolean, some .int, some .int, some .int, some .int, some .boolean, some .int, some .int, some .int, some .int, some .int, some .boolean, some .int, some .int, some .int, some .int, some .int, some .int, some .int, some .int, some .int, some .int, some .int, some .int, some .boolean, some .int, none, some .int, some .boolean, some .int, some .int, some .int, some .boolean, some .int, some .int, some .int, some .int, some .int, some .int, some .int, some .int, some .int, some .int, none, some .int, some .int, some .int, some .boolean, some .int, some .int, some .int, some .int, some .int, some .int, some .int, some .int, some .int, some .int, some .boolean, some .int, some .int, some .int, some .int, none, some .int, some .int, some .boolean, some .int, some .int, some .int, some .int, some .int, none, some .int, none, some .int, some .int, some .int, none, some .boolean, none, some .boolean, some .int, some .int, some .int, some .int, some .int, some .int, some .int, some .boolean, some .int, some .int, some .int, some .int, some .int, some .int, some .int, some .int, some .int, some .int, some .int, some .int, some .int, none] : List (Option FieldType)).getD y none
/-- the class whose pool it reads -/
def oc (y : Nat) : Nat := ([0, 0, 0, 0, 0, 0, 0, 0, 0, 0, 0, 0, 0, 1, 1, 1, 1, 2, 3, 3, 4, 4, 4, 4, 4, 5, 5, 5, 5, 5, 5, 5, 5, 5, 6, 6, 6, 6, 6, 6, 6, 6, 6, 7, 7, 7, 7, 7, 7, 7, 7, 7, 7, 7, 7, 7, 7, 7, 7, 7, 7, 7, 7, 7, 7, 7, 7, 7, 7, 7, 7, 7, 7, 7, 7, 7, 7, 7, 7, 7, 7, 7, 7, 7, 7, 7, 7, 7, 7, 7, 8, 8, 8, 8, 8, 8, 8, 8, 8, 8, 8, 8, 8, 8, 8, 8, 8, 8, 8, 8, 8, 8, 8, 8, 8, 8, 8, 8, 8, 8, 8, 8, 8, 8, 8, 8, 8, 8, 8, 8, 8, 8, 8, 8, 8, 8, 8, 8, 8, 8, 8, 8, 8, 8, 8, 8, 8, 9, 9, 9, 10] : List Nat).getD y 99
/-- how many parameters, without the receiver -/
def nP (y : Nat) : Nat := ([3, 0, 0, 1, 2, 0, 0, 0, 3, 1, 1, 0, 1, 2, 0, 3, 1, 2, 2, 3, 0, 1, 2, 1, 1, 1, 1, 0, 1, 0, 1, 1, 1, 1, 0, 4, 1, 1, 1, 2, 0, 0, 1, 1, 3, 1, 2, 1, 2, 2, 3, 1, 1, 1, 2, 2, 3, 6, 1, 3, 2, 2, 2, 1, 2, 2, 2, 2, 0, 2, 1, 3, 2, 4, 2, 1, 2, 1, 2, 2, 2, 1, 2, 1, 2, 2, 0, 1, 3, 1, 1, 1, 1, 2, 1, 2, 2, 3, 1, 1, 2, 2, 2, 3, 6, 1, 3, 2, 2, 2, 2, 2, 2, 2, 2, 2, 2, 0, 2, 1, 1, 1, 0, 0, 1, 0, 3, 3, 5, 2, 1, 1, 1, 2, 1, 2, 2, 2, 1, 2, 1, 2, 2, 0, 1, 3, 1, 2, 2, 2, 2] : List Nat).getD y 0
def iS (y : Nat) : Bool := ([false, false, false, false, false, false, false, false, false, false, false, false, false, false, false, false, false, false, false, true, false, false, false, false, false, false, false, false, false, false, true, false, true, true, false, false, false, false, false, true, false, false, false, false, true, false, false, false, false, false, false, false, true, false, false, false, false, false, false, false, false, false, false, false, false, false, false, false, false, false, false, false, false, false, false, false, false, false, false, false, false, false, false, false, false, false, false, false, false, false, false, false, false, false, false, false, false, false, false, false, false, false, false, false, false, false, false, false, false, false, false, false, false, false, false, false, false, false, false, false, false, false, false, false, false, false, false, false, false, false, false, false, false, false, false, false, false, false, false, false, false, false, false, false, false, false, false, true, true, true, true] : List Bool).getD y false
def rF (y : Nat) : Nat := ([0, 0, 0, 1, 1, 0, 1, 1, 4, 0, 0, 1, 1, 0, 1, 1, 1, 1, 1, 0, 0, 1, 1, 0, 1, 6, 5, 0, 4, 1, 0, 5, 0, 0, 0, 0, 0, 3, 2, 1, 0, 0, 0, 2, 0, 1, 2, 0, 2, 2, 3, 2, 1, 2, 3, 2, 2, 2, 0, 3, 2, 2, 2, 1, 2, 2, 2, 2, 0, 7, 6, 5, 2, 3, 2, 2, 1, 2, 7, 2, 6, 7, 2, 2, 2, 2, 0, 3, 2, 2, 0, 1, 0, 1, 0, 1, 1, 1, 0, 1, 1, 0, 1, 1, 1, 0, 1, 1, 1, 1, 0, 0, 1, 0, 1, 1, 1, 0, 7, 6, 0, 4, 1, 5, 5, 0, 4, 3, 2, 1, 1, 0, 2, 1, 0, 6, 1, 5, 6, 1, 1, 1, 1, 0, 1, 1, 1, 0, 0, 0, 0] : List Nat).getD y 0
def rL (y : Nat) : Nat := ([0, 0, 0, 20, 23, 0, 21, 21, 85, 0, 0, 20, 21, 0, 23, 22, 49, 23, 22, 0, 0, 22, 23, 0, 22, 132, 107, 0, 85, 21, 0, 107, 0, 0, 0, 0, 0, 63, 42, 21, 0, 0, 0, 43, 0, 22, 43, 0, 43, 43, 64, 43, 22, 43, 64, 43, 43, 43, 0, 64, 43, 43, 45, 21, 45, 43, 43, 43, 0, 154, 137, 112, 43, 69, 45, 43, 21, 47, 161, 41, 137, 161, 43, 43, 43, 45, 0, 64, 49, 43, 0, 21, 0, 21, 0, 21, 21, 21, 0, 21, 24, 0, 21, 21, 21, 0, 21, 21, 21, 24, 0, 0, 24, 0, 21, 21, 21, 0, 154, 129, 0, 85, 21, 107, 130, 0, 102, 75, 46, 24, 22, 0, 48, 23, 0, 158, 22, 130, 158, 21, 21, 21, 21, 0, 21, 21, 21, 0, 0, 0, 0] : List Nat).getD y 0
def rmO (y : Nat) : Room := { frames := rF y, cells := 0, slots := 0, locals := rL y }
def cdp (y : Nat) : Nat := ([434, 446, 470, 486, 491, 500, 647, 669, 674, 696, 716, 729, 749, 474, 630, 663, 757, 784, 656, 659, 407, 419, 712, 720, 725, 534, 538, 542, 548, 600, 603, 610, 613, 616, 450, 454, 462, 678, 683, 686, 692, 733, 753, 368, 371, 375, 379, 383, 388, 392, 396, 400, 403, 411, 415, 426, 430, 438, 442, 458, 466, 478, 482, 496, 510, 514, 518, 522, 526, 530, 626, 635, 639, 643, 652, 700, 704, 708, 737, 741, 745, 764, 768, 772, 776, 780, 789, 793, 797, 802, 812, 983, 987, 991, 995, 1000, 1004, 1008, 1012, 1016, 1020, 1024, 1028, 1032, 1036, 1040, 1044, 1048, 1052, 1056, 1060, 1064, 1068, 1072, 1076, 1080, 1084, 1088, 1092, 1096, 1100, 1106, 1112, 1118, 1127, 1131, 1135, 1139, 1143, 1147, 1151, 1155, 1159, 1163, 1168, 1172, 1176, 1180, 1184, 1188, 1192, 1196, 1200, 1204, 1208, 1212, 1216, 422, 503, 506, 242] : List Nat).getD y 0
def RN (o : Nat) : String := ([RX0, RX1, RX2, RX3, RX4, RX5, RX6, RX7, RX8, RJ9, RJ7] : List String).getD o ""
def TT (ci : Nat) : u_T := ([TX0, TX1, TX2, TX3, TX4, TX5, TX6, TX7, TX8] : List u_T).getD ci TX0
def tyT (ci : Nat) : Nat → FieldType := ([tyX0, tyX1, tyX2, tyX3, tyX4, tyX5, tyX6, tyX7, tyX8] : List (Nat → FieldType)).getD ci tyX0
def NF (ci : Nat) : Nat := ([14, 4, 2, 8, 8, 3, 6, 17, 55] : List Nat).getD ci 0
def FL : List (Nat × Nat × Nat × Nat) := [(5, 11, 5, 0), (7, 221, 5, 0), (5, 15, 5, 1), (7, 218, 5, 1), (5, 19, 5, 2), (2, 9, 2, 0), (7, 138, 2, 0), (2, 15, 2, 1), (7, 134, 2, 1), (1, 9, 1, 0), (7, 112, 1, 0), (1, 15, 1, 1), (1, 18, 1, 2), (7, 261, 1, 2), (1, 22, 1, 3), (7, 264, 1, 3), (6, 9, 6, 0), (0, 60, 6, 0), (7, 164, 6, 0), (6, 15, 6, 1), (6, 18, 6, 2), (0, 86, 6, 2), (6, 21, 6, 3), (0, 89, 6, 3), (6, 24, 6, 4), (6, 27, 6, 5), (0, 11, 0, 0), (7, 153, 0, 0), (0, 17, 0, 1), (7, 258, 0, 1), (0, 56, 0, 2), (7, 313, 0, 2), (0, 21, 0, 3), (0, 25, 0, 4), (1, 36, 0, 4), (7, 177, 0, 4), (0, 28, 0, 5), (7, 186, 0, 5), (0, 31, 0, 6), (1, 31, 0, 6), (7, 179, 0, 6), (0, 34, 0, 7), (7, 203, 0, 7), (0, 37, 0, 8), (7, 206, 0, 8), (0, 40, 0, 9), (7, 209, 0, 9), (0, 43, 0, 10), (1, 49, 0, 10), (7, 212, 0, 10), (0, 46, 0, 11), (7, 324, 0, 11), (0, 50, 0, 12), (7, 215, 0, 12), (0, 53, 0, 13), (4, 9, 4, 0), (7, 128, 4, 0), (4, 15, 4, 1), (4, 18, 4, 2), (4, 21, 4, 3), (4, 24, 4, 4), (7, 116, 4, 4), (4, 28, 4, 5), (7, 119, 4, 5), (4, 31, 4, 6), (7, 192, 4, 6), (4, 34, 4, 7), (7, 97, 4, 7), (3, 9, 3, 0), (5, 68, 3, 0), (3, 13, 3, 1), (5, 71, 3, 1), (3, 16, 3, 2), (5, 74, 3, 2), (3, 19, 3, 3), (5, 46, 3, 3), (7, 327, 3, 3), (3, 23, 3, 4), (5, 57, 3, 4), (7, 334, 3, 4), (3, 27, 3, 5), (5, 22, 3, 5), (3, 30, 3, 6), (7, 228, 3, 6), (3, 33, 3, 7), (7, 231, 3, 7), (7, 11, 7, 0), (7, 17, 7, 1), (7, 23, 7, 2), (7, 30, 7, 3), (7, 37, 7, 4), (7, 44, 7, 5), (7, 57, 7, 6), (7, 60, 7, 7), (7, 63, 7, 8), (7, 69, 7, 9), (7, 73, 7, 10), (7, 76, 7, 11), (7, 80, 7, 12), (7, 83, 7, 13), (7, 86, 7, 14), (7, 89, 7, 15), (7, 92, 7, 16), (8, 262, 8, 0), (8, 7, 8, 1), (8, 145, 8, 2), (8, 233, 8, 3), (8, 185, 8, 4), (8, 171, 8, 5), (8, 253, 8, 6), (8, 280, 8, 7), (8, 283, 8, 8), (8, 13, 8, 9), (8, 17, 8, 10), (8, 20, 8, 11), (8, 23, 8, 12), (8, 26, 8, 13), (8, 29, 8, 14), (8, 32, 8, 15), (8, 35, 8, 16), (8, 38, 8, 17), (8, 41, 8, 18), (8, 44, 8, 19), (8, 47, 8, 20), (8, 50, 8, 21), (8, 53, 8, 22), (8, 56, 8, 23), (8, 59, 8, 24), (8, 62, 8, 25), (8, 65, 8, 26), (8, 68, 8, 27), (8, 72, 8, 28), (8, 75, 8, 29), (8, 78, 8, 30), (8, 81, 8, 31), (8, 84, 8, 32), (8, 87, 8, 33), (8, 90, 8, 34), (8, 93, 8, 35), (8, 96, 8, 36), (8, 99, 8, 37), (8, 269, 8, 38), (8, 102, 8, 39), (8, 105, 8, 40), (8, 108, 8, 41), (8, 111, 8, 42), (8, 114, 8, 43), (8, 117, 8, 44), (8, 120, 8, 45), (8, 123, 8, 46), (8, 126, 8, 47), (8, 129, 8, 48), (8, 132, 8, 49), (8, 135, 8, 50), (8, 160, 8, 51), (8, 197, 8, 52), (8, 194, 8, 53), (8, 138, 8, 54)]
def ML : List (Nat × Nat × Nat) := [(4, 37, 150), (7, 100, 44), (7, 104, 45), (7, 108, 47), (7, 122, 51), (7, 125, 52), (7, 131, 20), (7, 141, 21), (4, 43, 147), (7, 144, 0), (7, 148, 58), (7, 157, 1), (7, 161, 34), (7, 167, 35), (7, 171, 36), (7, 174, 2), (7, 182, 13), (7, 189, 3), (0, 63, 2), (7, 195, 4), (0, 67, 150), (7, 199, 63), (7, 282, 5), (7, 276, 148), (7, 286, 149), (7, 224, 25), (5, 27, 26), (5, 42, 27), (5, 35, 28), (5, 54, 29), (5, 85, 30), (5, 89, 149), (5, 39, 31), (5, 60, 32), (5, 64, 33), (7, 234, 14), (1, 25, 150), (7, 237, 71), (7, 289, 72), (7, 292, 73), (7, 310, 6), (0, 73, 149), (7, 316, 74), (7, 330, 18), (3, 36, 19), (7, 320, 15), (1, 39, 148), (1, 45, 13), (7, 296, 7), (0, 79, 148), (7, 299, 8), (0, 82, 37), (6, 31, 34), (6, 35, 38), (6, 45, 39), (6, 39, 148), (6, 52, 149), (6, 49, 40), (7, 303, 9), (7, 306, 75), (7, 335, 76), (7, 241, 22), (4, 49, 10), (4, 55, 23), (4, 58, 148), (7, 245, 24), (7, 248, 11), (0, 92, 41), (7, 251, 79), (7, 255, 80), (7, 338, 12), (0, 95, 42), (7, 342, 16), (7, 267, 17), (2, 19, 150), (8, 141, 90), (8, 148, 92), (8, 152, 94), (8, 157, 98), (8, 164, 101), (8, 168, 105), (8, 174, 110), (8, 178, 111), (8, 181, 113), (8, 236, 119), (8, 200, 120), (8, 215, 121), (8, 223, 122), (8, 230, 123), (8, 259, 125), (8, 265, 126), (8, 249, 127), (8, 242, 128), (8, 239, 129), (8, 256, 130), (8, 246, 131), (8, 277, 133), (8, 274, 134), (8, 286, 136), (8, 289, 137)]
def CL : List (Nat × Nat × Int32) := [(7, 115, 100000), (8, 156, 100000)]
def CLL : List (Nat × Nat × Int64) := [(8, 272, 1000)]
def SL : List (Nat × Nat × Nat × String) := [(5, 50, 0, "vent "), (5, 52, 1, "fill "), (5, 31, 2, " if "), (5, 33, 3, " and "), (5, 95, 4, "ice"), (5, 97, 5, "heat"), (5, 99, 6, "out"), (5, 101, 7, "station"), (5, 103, 8, "car"), (8, 219, 0, "vent "), (8, 221, 1, "fill "), (8, 226, 2, " if "), (8, 228, 3, " and "), (8, 207, 5, "heat"), (8, 208, 6, "out"), (8, 210, 7, "station"), (8, 212, 8, "car"), (8, 214, 4, "ice")]
/-- calls of the library that are steps here: 0 length, 1 charAt, 2 arraycopy -/
def PL : List (Nat × Nat × Nat) := [(5, 77, 0), (5, 81, 1), (1, 52, 2), (7, 270, 2), (8, 188, 0), (8, 203, 1)]
def fr (o i : Nat) : Option (Nat × Nat) := (FL.find? (fun e => e.1 == o && e.2.1 == i)).map (fun e => e.2.2)
def mr (o i : Nat) : Option Nat := (ML.find? (fun e => e.1 == o && e.2.1 == i)).map (fun e => e.2.2)
def cr (o i : Nat) : Option Int32 := (CL.find? (fun e => e.1 == o && e.2.1 == i)).map (fun e => e.2.2)
def crl (o i : Nat) : Option Int64 := (CLL.find? (fun e => e.1 == o && e.2.1 == i)).map (fun e => e.2.2)
def sr (o i : Nat) : Option Nat := (SL.find? (fun e => e.1 == o && e.2.1 == i)).map (fun e => e.2.2.1)
def pr (o i : Nat) : Option Nat := (PL.find? (fun e => e.1 == o && e.2.1 == i)).map (fun e => e.2.2)
/-- the kind of the object of a number: 0 to 8 a class of vwCl, 9 int[], 10 boolean[], 11 Tier[], 12 Car[], 13 Rule[], 14 Station[], 99 none -/
def kd (k : Nat) : Nat := if 1400 ≤ k then 99 else if k < 1000 then (if k < 17 then [7, 14, 12, 13, 5, 9, 2, 9, 1, 9, 9, 1, 9, 9, 9, 9, 9].getD k 99 else if 600 ≤ k then [8, 99, 99, 99, 99, 99, 99, 99, 99, 9, 9, 9, 9, 9, 9, 9, 9, 9, 9, 9, 9, 9, 9, 9, 9, 9, 9, 10, 10, 9, 9, 9, 9, 9, 9, 9, 9, 9, 99, 9, 9, 9, 9, 9, 9, 9, 9, 9, 9, 9, 9, 99, 99, 99, 9].getD (k - 600) 99 else 99) else if (k - 1000) % 3 = 0 then (if (k - 1000) / 30 < 8 then [4, 9, 9, 9, 9].getD ((k - 1000) / 3 % 10) 99 else 99) else if (k - 1000) % 3 = 1 then (if (k - 1000) / 30 < 11 then [0, 11, 9, 6, 6, 6, 6].getD ((k - 1000) / 3 % 10) 99 else 99) else (if (k - 1000) / 30 < 10 then [3, 9, 9, 9].getD ((k - 1000) / 3 % 10) 99 else 99)
def ln (k : Nat) : Nat := if 1400 ≤ k then 0 else if k < 1000 then (if k < 17 then [0, 8, 10, 10, 0, 80, 0, 48, 0, 8, 8, 0, 8, 8, 10, 5, 9].getD k 0 else if 600 ≤ k then [0, 0, 0, 0, 0, 0, 0, 0, 0, 8, 8, 8, 8, 8, 8, 384, 10, 11, 11, 11, 11, 11, 11, 11, 11, 11, 11, 11, 11, 33, 44, 44, 44, 44, 44, 44, 256, 256, 0, 10, 10, 10, 10, 10, 30, 30, 30, 80, 48, 48, 9, 0, 0, 0, 8].getD (k - 600) 0 else 0) else if (k - 1000) % 3 = 0 then [0, 48, 48, 24, 24].getD ((k - 1000) / 3 % 10) 0 else if (k - 1000) % 3 = 1 then [0, 4, 3].getD ((k - 1000) / 3 % 10) 0 else [0, 3, 3, 3].getD ((k - 1000) / 3 % 10) 0
def rf (k j : Nat) : Option Nat :=
  if k < 1000 then (
    if k = 0 then [some 1, some 2, some 3, some 4, some 6, some 8, some 14, some 15, some 16, some 1301, some 11].getD j none
    else if k = 1 then (if j < 8 then some (1000 + 30 * j) else none)
    else if k = 2 then (if j < 10 then some (1001 + 30 * j) else none)
    else if k = 3 then (if j < 10 then some (1002 + 30 * j) else none)
    else if k = 4 ∨ k = 6 then (if j = 0 then some (k + 1) else none)
    else if k = 8 ∨ k = 11 then (if j < 2 then some (k + 1 + j) else none)
    else if k = 600 then (if [false, false, false, false, false, false, false, false, false, true, true, true, true, true, true, true, true, true, true, true, true, true, true, true, true, true, true, true, true, true, true, true, true, true, true, true, true, true, false, true, true, true, true, true, true, true, true, true, true, true, true, false, false, false, true].getD j false then some (600 + j) else none)
    else none)
  else if (k - 1000) % 3 = 0 then (if (k - 1000) / 3 % 10 = 0 ∧ j < 4 then some (k + 3 * (1 + j)) else none)
  else if (k - 1000) % 3 = 1 then (if (k - 1000) / 3 % 10 = 0 then (if j < 2 then some (k + 3 * (1 + j)) else none) else if (k - 1000) / 3 % 10 = 1 then (if j < 4 then some (k + 3 * (2 + j)) else none) else none)
  else (if (k - 1000) / 3 % 10 = 0 ∧ j < 3 then some (k + 3 * (1 + j)) else none)
def FLp : List ((Nat × Nat × Nat × Nat) × Nat) := [((5, 11, 5, 0), 83), ((7, 221, 5, 0), 84), ((5, 15, 5, 1), 85), ((7, 218, 5, 1), 86), ((5, 19, 5, 2), 87), ((2, 9, 2, 0), 102), ((7, 138, 2, 0), 103), ((2, 15, 2, 1), 104), ((7, 134, 2, 1), 105), ((1, 9, 1, 0), 117), ((7, 112, 1, 0), 118), ((1, 15, 1, 1), 119), ((1, 18, 1, 2), 120), ((7, 261, 1, 2), 121), ((1, 22, 1, 3), 122), ((7, 264, 1, 3), 123), ((6, 9, 6, 0), 154), ((0, 60, 6, 0), 155), ((7, 164, 6, 0), 156), ((6, 15, 6, 1), 157), ((6, 18, 6, 2), 158), ((0, 86, 6, 2), 159), ((6, 21, 6, 3), 160), ((0, 89, 6, 3), 161), ((6, 24, 6, 4), 162), ((6, 27, 6, 5), 163), ((0, 11, 0, 0), 177), ((7, 153, 0, 0), 178), ((0, 17, 0, 1), 179), ((7, 258, 0, 1), 180), ((0, 56, 0, 2), 181), ((7, 313, 0, 2), 182), ((0, 21, 0, 3), 183), ((0, 25, 0, 4), 184), ((1, 36, 0, 4), 185), ((7, 177, 0, 4), 186), ((0, 28, 0, 5), 187), ((7, 186, 0, 5), 188), ((0, 31, 0, 6), 189), ((1, 31, 0, 6), 190), ((7, 179, 0, 6), 191), ((0, 34, 0, 7), 192), ((7, 203, 0, 7), 193), ((0, 37, 0, 8), 194), ((7, 206, 0, 8), 195), ((0, 40, 0, 9), 196), ((7, 209, 0, 9), 197), ((0, 43, 0, 10), 198), ((1, 49, 0, 10), 199), ((7, 212, 0, 10), 200), ((0, 46, 0, 11), 201), ((7, 324, 0, 11), 202), ((0, 50, 0, 12), 203), ((7, 215, 0, 12), 204), ((0, 53, 0, 13), 205), ((4, 9, 4, 0), 243), ((7, 128, 4, 0), 244), ((4, 15, 4, 1), 245), ((4, 18, 4, 2), 246), ((4, 21, 4, 3), 247), ((4, 24, 4, 4), 248), ((7, 116, 4, 4), 249), ((4, 28, 4, 5), 250), ((7, 119, 4, 5), 251), ((4, 31, 4, 6), 252), ((7, 192, 4, 6), 253), ((4, 34, 4, 7), 254), ((7, 97, 4, 7), 255), ((3, 9, 3, 0), 278), ((5, 68, 3, 0), 279), ((3, 13, 3, 1), 280), ((5, 71, 3, 1), 281), ((3, 16, 3, 2), 282), ((5, 74, 3, 2), 283), ((3, 19, 3, 3), 284), ((5, 46, 3, 3), 285), ((7, 327, 3, 3), 286), ((3, 23, 3, 4), 287), ((5, 57, 3, 4), 288), ((7, 334, 3, 4), 289), ((3, 27, 3, 5), 290), ((5, 22, 3, 5), 291), ((3, 30, 3, 6), 292), ((7, 228, 3, 6), 293), ((3, 33, 3, 7), 294), ((7, 231, 3, 7), 295), ((7, 11, 7, 0), 313), ((7, 17, 7, 1), 314), ((7, 23, 7, 2), 315), ((7, 30, 7, 3), 316), ((7, 37, 7, 4), 317), ((7, 44, 7, 5), 318), ((7, 57, 7, 6), 319), ((7, 60, 7, 7), 320), ((7, 63, 7, 8), 321), ((7, 69, 7, 9), 322), ((7, 73, 7, 10), 323), ((7, 76, 7, 11), 324), ((7, 80, 7, 12), 325), ((7, 83, 7, 13), 326), ((7, 86, 7, 14), 327), ((7, 89, 7, 15), 328), ((7, 92, 7, 16), 329), ((8, 262, 8, 0), 813), ((8, 7, 8, 1), 814), ((8, 145, 8, 2), 815), ((8, 233, 8, 3), 816), ((8, 185, 8, 4), 817), ((8, 171, 8, 5), 818), ((8, 253, 8, 6), 819), ((8, 280, 8, 7), 820), ((8, 283, 8, 8), 821), ((8, 13, 8, 9), 822), ((8, 17, 8, 10), 823), ((8, 20, 8, 11), 824), ((8, 23, 8, 12), 825), ((8, 26, 8, 13), 826), ((8, 29, 8, 14), 827), ((8, 32, 8, 15), 828), ((8, 35, 8, 16), 829), ((8, 38, 8, 17), 830), ((8, 41, 8, 18), 831), ((8, 44, 8, 19), 832), ((8, 47, 8, 20), 833), ((8, 50, 8, 21), 834), ((8, 53, 8, 22), 835), ((8, 56, 8, 23), 836), ((8, 59, 8, 24), 837), ((8, 62, 8, 25), 838), ((8, 65, 8, 26), 839), ((8, 68, 8, 27), 840), ((8, 72, 8, 28), 841), ((8, 75, 8, 29), 842), ((8, 78, 8, 30), 843), ((8, 81, 8, 31), 844), ((8, 84, 8, 32), 845), ((8, 87, 8, 33), 846), ((8, 90, 8, 34), 847), ((8, 93, 8, 35), 848), ((8, 96, 8, 36), 849), ((8, 99, 8, 37), 850), ((8, 269, 8, 38), 851), ((8, 102, 8, 39), 852), ((8, 105, 8, 40), 853), ((8, 108, 8, 41), 854), ((8, 111, 8, 42), 855), ((8, 114, 8, 43), 856), ((8, 117, 8, 44), 857), ((8, 120, 8, 45), 858), ((8, 123, 8, 46), 859), ((8, 126, 8, 47), 860), ((8, 129, 8, 48), 861), ((8, 132, 8, 49), 862), ((8, 135, 8, 50), 863), ((8, 160, 8, 51), 864), ((8, 197, 8, 52), 865), ((8, 194, 8, 53), 866), ((8, 138, 8, 54), 867)]
def MLp : List ((Nat × Nat × Nat) × (Nat × Nat × Nat × Nat)) := [((4, 37, 150), (240, 54, 241, 0)), ((7, 100, 44), (369, 47, 370, 0)), ((7, 104, 45), (372, 47, 374, 0)), ((7, 108, 47), (380, 47, 382, 1)), ((7, 122, 51), (397, 47, 399, 2)), ((7, 125, 52), (401, 47, 402, 0)), ((7, 131, 20), (404, 53, 405, 406)), ((7, 141, 21), (416, 53, 417, 418)), ((4, 43, 147), (420, 57, 421, 0)), ((7, 144, 0), (431, 51, 432, 433)), ((7, 148, 58), (439, 47, 441, 3)), ((7, 157, 1), (443, 51, 444, 445)), ((7, 161, 34), (447, 52, 448, 449)), ((7, 167, 35), (451, 52, 452, 453)), ((7, 171, 36), (459, 52, 460, 461)), ((7, 174, 2), (467, 51, 468, 469)), ((7, 182, 13), (471, 50, 472, 473)), ((7, 189, 3), (483, 51, 484, 485)), ((0, 63, 2), (487, 51, 468, 469)), ((7, 195, 4), (488, 51, 489, 490)), ((0, 67, 150), (492, 54, 241, 0)), ((7, 199, 63), (493, 47, 495, 4)), ((7, 282, 5), (497, 51, 498, 499)), ((7, 276, 148), (501, 57, 502, 0)), ((7, 286, 149), (504, 57, 505, 0)), ((7, 224, 25), (531, 48, 532, 533)), ((5, 27, 26), (535, 48, 537, 5)), ((5, 42, 27), (539, 48, 541, 6)), ((5, 35, 28), (545, 48, 547, 7)), ((5, 54, 29), (597, 48, 599, 8)), ((5, 85, 30), (601, 48, 602, 0)), ((5, 89, 149), (604, 57, 505, 0)), ((5, 39, 31), (607, 48, 609, 9)), ((5, 60, 32), (611, 48, 612, 0)), ((5, 64, 33), (614, 48, 615, 0)), ((7, 234, 14), (627, 50, 628, 629)), ((1, 25, 150), (631, 54, 241, 0)), ((7, 237, 71), (632, 47, 634, 10)), ((7, 289, 72), (636, 47, 638, 11)), ((7, 292, 73), (640, 47, 642, 12)), ((7, 310, 6), (644, 51, 645, 646)), ((0, 73, 149), (648, 57, 505, 0)), ((7, 316, 74), (649, 47, 651, 13)), ((7, 330, 18), (653, 55, 654, 655)), ((3, 36, 19), (657, 55, 658, 0)), ((7, 320, 15), (660, 50, 661, 662)), ((1, 39, 148), (664, 57, 502, 0)), ((1, 45, 13), (665, 50, 472, 473)), ((7, 296, 7), (666, 51, 667, 668)), ((0, 79, 148), (670, 57, 502, 0)), ((7, 299, 8), (671, 51, 672, 673)), ((0, 82, 37), (675, 52, 676, 677)), ((6, 31, 34), (679, 52, 448, 449)), ((6, 35, 38), (680, 52, 682, 14)), ((6, 45, 39), (684, 52, 685, 0)), ((6, 39, 148), (687, 57, 502, 0)), ((6, 52, 149), (688, 57, 505, 0)), ((6, 49, 40), (689, 52, 691, 15)), ((7, 303, 9), (693, 51, 694, 695)), ((7, 306, 75), (697, 47, 699, 16)), ((7, 335, 76), (701, 47, 703, 17)), ((7, 241, 22), (709, 53, 710, 711)), ((4, 49, 10), (713, 51, 714, 715)), ((4, 55, 23), (717, 53, 719, 18)), ((4, 58, 148), (721, 57, 502, 0)), ((7, 245, 24), (722, 53, 723, 724)), ((7, 248, 11), (726, 51, 727, 728)), ((0, 92, 41), (730, 52, 731, 732)), ((7, 251, 79), (738, 47, 740, 19)), ((7, 255, 80), (742, 47, 744, 20)), ((7, 338, 12), (746, 51, 747, 748)), ((0, 95, 42), (750, 52, 751, 752)), ((7, 342, 16), (754, 50, 755, 756)), ((7, 267, 17), (781, 49, 782, 783)), ((2, 19, 150), (785, 54, 241, 0)), ((8, 141, 90), (809, 56, 811, 21)), ((8, 148, 92), (984, 56, 986, 22)), ((8, 152, 94), (992, 56, 994, 23)), ((8, 157, 98), (1009, 56, 1011, 24)), ((8, 164, 101), (1021, 56, 1023, 25)), ((8, 168, 105), (1037, 56, 1039, 26)), ((8, 174, 110), (1057, 56, 1059, 27)), ((8, 178, 111), (1061, 56, 1063, 28)), ((8, 181, 113), (1069, 56, 1071, 29)), ((8, 236, 119), (1093, 56, 1095, 30)), ((8, 200, 120), (1097, 56, 1099, 31)), ((8, 215, 121), (1103, 56, 1105, 32)), ((8, 223, 122), (1109, 56, 1111, 33)), ((8, 230, 123), (1115, 56, 1117, 34)), ((8, 259, 125), (1128, 56, 1130, 35)), ((8, 265, 126), (1132, 56, 1134, 36)), ((8, 249, 127), (1136, 56, 1138, 37)), ((8, 242, 128), (1140, 56, 1142, 38)), ((8, 239, 129), (1144, 56, 1146, 39)), ((8, 256, 130), (1148, 56, 1150, 40)), ((8, 246, 131), (1152, 56, 1154, 41)), ((8, 277, 133), (1160, 56, 1162, 42)), ((8, 274, 134), (1165, 56, 1167, 43)), ((8, 286, 136), (1173, 56, 1175, 44)), ((8, 289, 137), (1177, 56, 1179, 45))]
def lwg : List Cond := lw_tbl.filter goodWord
def okw (p : Nat) (w : Cond) : Bool := decide (lw_tbl[p]? = some w) && goodWord w
theorem okw_in {p : Nat} {w : Cond} (h : okw p w = true) : w ∈ lwg := by
  unfold okw at h
  simp only [Bool.and_eq_true, decide_eq_true_eq] at h
  exact List.mem_filter.mpr ⟨List.mem_of_getElem? h.1, h.2⟩
theorem FL_0 : FL = FLp.map (fun e => e.1) := by decide +kernel
theorem FL_1 : ∀ e ∈ FLp, okw e.2 (Cond.fieldLink (RN e.1.1) e.1.2.1 (TT e.1.2.2.1 e.1.2.2.2).1 (TT e.1.2.2.1 e.1.2.2.2).2.1 (TT e.1.2.2.1 e.1.2.2.2).2.2.1) = true := by decide +kernel
theorem FL_2 : ∀ e ∈ FLp, e.1.2.2.2 < NF e.1.2.2.1 ∧ e.1.2.2.1 < 9 := by decide +kernel
theorem FL_ok : ∀ e ∈ FL, Cond.fieldLink (RN e.1) e.2.1 (TT e.2.2.1 e.2.2.2).1 (TT e.2.2.1 e.2.2.2).2.1 (TT e.2.2.1 e.2.2.2).2.2.1 ∈ lwg ∧ e.2.2.2 < NF e.2.2.1 ∧ e.2.2.1 < 9 := by
  intro e he
  rw [FL_0] at he
  obtain ⟨q, hq, rfl⟩ := List.mem_map.mp he
  exact ⟨okw_in (FL_1 q hq), FL_2 q hq⟩
theorem CL_ok : ∀ e ∈ CL, Cond.constant (RN e.1) e.2.1 e.2.2 ∈ lwg := by decide +kernel
theorem CLL_ok : ∀ e ∈ CLL, Cond.constantLong (RN e.1) e.2.1 e.2.2 ∈ lwg := by decide +kernel
theorem ML_0 : ML = MLp.map (fun e => e.1) := by decide +kernel
theorem ML_1 : ∀ e ∈ MLp, e.1.2.2 < nM := by decide +kernel
theorem ML_2 : ∀ e ∈ MLp, okw e.2.1 (Cond.methodLink (RN e.1.1) e.1.2.1 (mN e.1.2.2)) = true := by decide +kernel
theorem ML_3 : ∀ e ∈ MLp, okw e.2.2.1 (Cond.initialized (mN e.1.2.2).cls) = true := by decide +kernel
theorem ML_4 : ∀ e ∈ MLp, (if iS e.1.2.2 then okw e.2.2.2.1 (Cond.static (mN e.1.2.2)) else okw e.2.2.2.1 (Cond.instanceMethod (mN e.1.2.2))) = true := by decide +kernel
theorem ML_5 : ∀ e ∈ MLp, (if iS e.1.2.2 then true else okw e.2.2.2.2 (Cond.selects (mN e.1.2.2).cls (mN e.1.2.2) (mN e.1.2.2))) = true := by decide +kernel
theorem ML_ok : ∀ e ∈ ML, e.2.2 < nM ∧ Cond.methodLink (RN e.1) e.2.1 (mN e.2.2) ∈ lwg ∧ Cond.initialized (mN e.2.2).cls ∈ lwg ∧ (if iS e.2.2 then Cond.static (mN e.2.2) ∈ lwg else (Cond.instanceMethod (mN e.2.2) ∈ lwg ∧ Cond.selects (mN e.2.2).cls (mN e.2.2) (mN e.2.2) ∈ lwg)) := by
  intro e he
  rw [ML_0] at he
  obtain ⟨q, hq, rfl⟩ := List.mem_map.mp he
  refine ⟨ML_1 q hq, okw_in (ML_2 q hq), okw_in (ML_3 q hq), ?_⟩
  have h4 := ML_4 q hq
  have h5 := ML_5 q hq
  cases hs : iS q.1.2.2 with
  | true => rw [hs] at h4; exact okw_in h4
  | false => rw [hs] at h4 h5; exact ⟨okw_in h4, okw_in h5⟩
theorem mN_1 : ∀ y, y < nM → (mN y).cls = RN (oc y) := by decide +kernel
theorem mN_2 : ∀ y, y < nM → (mN y).cls ≠ "java/lang/invoke/MethodHandle" ∧ (mN y).cls ≠ "java/lang/invoke/VarHandle" := by decide +kernel
theorem mN_3 : ∀ y, y < nM → (parseMethodDescriptor (mN y).desc).map (fun d => d.parameters.length) = some (nP y) := by decide +kernel
theorem oc_lt : ∀ y, y < nM → oc y < 11 := by decide +kernel
theorem pn_ok : ∀ o, o < 11 → o ≠ 9 → plainName (RN o) = true := by
  intro o h h9
  match o, h, h9 with
  | 0, _, _ => decide
  | 1, _, _ => decide
  | 2, _, _ => decide
  | 3, _, _ => decide
  | 4, _, _ => decide
  | 5, _, _ => decide
  | 6, _, _ => decide
  | 7, _, _ => decide
  | 8, _, _ => decide
  | 9, _, h9 => exact absurd rfl h9
  | 10, _, _ => decide
  | n + 11, h, _ => exact absurd h (by omega)
theorem pf_m : ∀ y, y < nM → oc y = 9 → y = 147 ∨ y = 148 ∨ y = 149 := by decide +kernel
theorem pf_147 : plainFor (mN 147) = true := by decide +kernel
theorem pf_148 : plainFor (mN 148) = true := by decide +kernel
theorem pf_149 : plainFor (mN 149) = true := by decide +kernel
theorem mN_4 : ∀ y, y < nM → plainFor (mN y) = true := by
  intro y hy
  by_cases h9 : oc y = 9
  · rcases pf_m y hy h9 with rfl | rfl | rfl
    · exact pf_147
    · exact pf_148
    · exact pf_149
  · refine plainFor_of_name ?_
    rw [mN_1 y hy]
    exact pn_ok _ (oc_lt y hy) h9
theorem mN_5 : ∀ y, y < nM → (nP y + (if iS y then 0 else 1)) ≤ mL y := by decide +kernel

set_option maxRecDepth 100000 in
theorem cdk_0 : lw_tbl[434]? = some (Cond.code (mN 0) (cd 0) (mL 0) (rT 0)) := rfl
set_option maxRecDepth 100000 in
theorem cdk_1 : lw_tbl[446]? = some (Cond.code (mN 1) (cd 1) (mL 1) (rT 1)) := rfl
set_option maxRecDepth 100000 in
theorem cdk_2 : lw_tbl[470]? = some (Cond.code (mN 2) (cd 2) (mL 2) (rT 2)) := rfl
set_option maxRecDepth 100000 in
theorem cdk_3 : lw_tbl[486]? = some (Cond.code (mN 3) (cd 3) (mL 3) (rT 3)) := rfl
set_option maxRecDepth 100000 in
theorem cdk_4 : lw_tbl[491]? = some (Cond.code (mN 4) (cd 4) (mL 4) (rT 4)) := rfl
set_option maxRecDepth 100000 in
theorem cdk_5 : lw_tbl[500]? = some (Cond.code (mN 5) (cd 5) (mL 5) (rT 5)) := rfl
set_option maxRecDepth 100000 in
theorem cdk_6 : lw_tbl[647]? = some (Cond.code (mN 6) (cd 6) (mL 6) (rT 6)) := rfl
set_option maxRecDepth 100000 in
theorem cdk_7 : lw_tbl[669]? = some (Cond.code (mN 7) (cd 7) (mL 7) (rT 7)) := rfl
set_option maxRecDepth 100000 in
theorem cdk_8 : lw_tbl[674]? = some (Cond.code (mN 8) (cd 8) (mL 8) (rT 8)) := rfl
set_option maxRecDepth 100000 in
theorem cdk_9 : lw_tbl[696]? = some (Cond.code (mN 9) (cd 9) (mL 9) (rT 9)) := rfl
set_option maxRecDepth 100000 in
theorem cdk_10 : lw_tbl[716]? = some (Cond.code (mN 10) (cd 10) (mL 10) (rT 10)) := rfl
set_option maxRecDepth 100000 in
theorem cdk_11 : lw_tbl[729]? = some (Cond.code (mN 11) (cd 11) (mL 11) (rT 11)) := rfl
set_option maxRecDepth 100000 in
theorem cdk_12 : lw_tbl[749]? = some (Cond.code (mN 12) (cd 12) (mL 12) (rT 12)) := rfl
set_option maxRecDepth 100000 in
theorem cdk_13 : lw_tbl[474]? = some (Cond.code (mN 13) (cd 13) (mL 13) (rT 13)) := rfl
set_option maxRecDepth 100000 in
theorem cdk_14 : lw_tbl[630]? = some (Cond.code (mN 14) (cd 14) (mL 14) (rT 14)) := rfl
set_option maxRecDepth 100000 in
theorem cdk_15 : lw_tbl[663]? = some (Cond.code (mN 15) (cd 15) (mL 15) (rT 15)) := rfl
set_option maxRecDepth 100000 in
theorem cdk_16 : lw_tbl[757]? = some (Cond.code (mN 16) (cd 16) (mL 16) (rT 16)) := rfl
set_option maxRecDepth 100000 in
theorem cdk_17 : lw_tbl[784]? = some (Cond.code (mN 17) (cd 17) (mL 17) (rT 17)) := rfl
set_option maxRecDepth 100000 in
theorem cdk_18 : lw_tbl[656]? = some (Cond.code (mN 18) (cd 18) (mL 18) (rT 18)) := rfl
set_option maxRecDepth 100000 in
theorem cdk_19 : lw_tbl[659]? = some (Cond.code (mN 19) (cd 19) (mL 19) (rT 19)) := rfl
set_option maxRecDepth 100000 in
theorem cdk_20 : lw_tbl[407]? = some (Cond.code (mN 20) (cd 20) (mL 20) (rT 20)) := rfl
set_option maxRecDepth 100000 in
theorem cdk_21 : lw_tbl[419]? = some (Cond.code (mN 21) (cd 21) (mL 21) (rT 21)) := rfl
set_option maxRecDepth 100000 in
theorem cdk_22 : lw_tbl[712]? = some (Cond.code (mN 22) (cd 22) (mL 22) (rT 22)) := rfl
set_option maxRecDepth 100000 in
theorem cdk_23 : lw_tbl[720]? = some (Cond.code (mN 23) (cd 23) (mL 23) (rT 23)) := rfl
set_option maxRecDepth 100000 in
theorem cdk_24 : lw_tbl[725]? = some (Cond.code (mN 24) (cd 24) (mL 24) (rT 24)) := rfl
set_option maxRecDepth 100000 in
theorem cdk_25 : lw_tbl[534]? = some (Cond.code (mN 25) (cd 25) (mL 25) (rT 25)) := rfl
set_option maxRecDepth 100000 in
theorem cdk_26 : lw_tbl[538]? = some (Cond.code (mN 26) (cd 26) (mL 26) (rT 26)) := rfl
set_option maxRecDepth 100000 in
theorem cdk_27 : lw_tbl[542]? = some (Cond.code (mN 27) (cd 27) (mL 27) (rT 27)) := rfl
set_option maxRecDepth 100000 in
theorem cdk_28 : lw_tbl[548]? = some (Cond.code (mN 28) (cd 28) (mL 28) (rT 28)) := rfl
set_option maxRecDepth 100000 in
theorem cdk_29 : lw_tbl[600]? = some (Cond.code (mN 29) (cd 29) (mL 29) (rT 29)) := rfl
set_option maxRecDepth 100000 in
theorem cdk_30 : lw_tbl[603]? = some (Cond.code (mN 30) (cd 30) (mL 30) (rT 30)) := rfl
set_option maxRecDepth 100000 in
theorem cdk_31 : lw_tbl[610]? = some (Cond.code (mN 31) (cd 31) (mL 31) (rT 31)) := rfl
set_option maxRecDepth 100000 in
theorem cdk_32 : lw_tbl[613]? = some (Cond.code (mN 32) (cd 32) (mL 32) (rT 32)) := rfl
set_option maxRecDepth 100000 in
theorem cdk_33 : lw_tbl[616]? = some (Cond.code (mN 33) (cd 33) (mL 33) (rT 33)) := rfl
set_option maxRecDepth 100000 in
theorem cdk_34 : lw_tbl[450]? = some (Cond.code (mN 34) (cd 34) (mL 34) (rT 34)) := rfl
set_option maxRecDepth 100000 in
theorem cdk_35 : lw_tbl[454]? = some (Cond.code (mN 35) (cd 35) (mL 35) (rT 35)) := rfl
set_option maxRecDepth 100000 in
theorem cdk_36 : lw_tbl[462]? = some (Cond.code (mN 36) (cd 36) (mL 36) (rT 36)) := rfl
set_option maxRecDepth 100000 in
theorem cdk_37 : lw_tbl[678]? = some (Cond.code (mN 37) (cd 37) (mL 37) (rT 37)) := rfl
set_option maxRecDepth 100000 in
theorem cdk_38 : lw_tbl[683]? = some (Cond.code (mN 38) (cd 38) (mL 38) (rT 38)) := rfl
set_option maxRecDepth 100000 in
theorem cdk_39 : lw_tbl[686]? = some (Cond.code (mN 39) (cd 39) (mL 39) (rT 39)) := rfl
set_option maxRecDepth 100000 in
theorem cdk_40 : lw_tbl[692]? = some (Cond.code (mN 40) (cd 40) (mL 40) (rT 40)) := rfl
set_option maxRecDepth 100000 in
theorem cdk_41 : lw_tbl[733]? = some (Cond.code (mN 41) (cd 41) (mL 41) (rT 41)) := rfl
set_option maxRecDepth 100000 in
theorem cdk_42 : lw_tbl[753]? = some (Cond.code (mN 42) (cd 42) (mL 42) (rT 42)) := rfl
set_option maxRecDepth 100000 in
theorem cdk_43 : lw_tbl[368]? = some (Cond.code (mN 43) (cd 43) (mL 43) (rT 43)) := rfl
set_option maxRecDepth 100000 in
theorem cdk_44 : lw_tbl[371]? = some (Cond.code (mN 44) (cd 44) (mL 44) (rT 44)) := rfl
set_option maxRecDepth 100000 in
theorem cdk_45 : lw_tbl[375]? = some (Cond.code (mN 45) (cd 45) (mL 45) (rT 45)) := rfl
set_option maxRecDepth 100000 in
theorem cdk_46 : lw_tbl[379]? = some (Cond.code (mN 46) (cd 46) (mL 46) (rT 46)) := rfl
set_option maxRecDepth 100000 in
theorem cdk_47 : lw_tbl[383]? = some (Cond.code (mN 47) (cd 47) (mL 47) (rT 47)) := rfl
set_option maxRecDepth 100000 in
theorem cdk_48 : lw_tbl[388]? = some (Cond.code (mN 48) (cd 48) (mL 48) (rT 48)) := rfl
set_option maxRecDepth 100000 in
theorem cdk_49 : lw_tbl[392]? = some (Cond.code (mN 49) (cd 49) (mL 49) (rT 49)) := rfl
set_option maxRecDepth 100000 in
theorem cdk_50 : lw_tbl[396]? = some (Cond.code (mN 50) (cd 50) (mL 50) (rT 50)) := rfl
set_option maxRecDepth 100000 in
theorem cdk_51 : lw_tbl[400]? = some (Cond.code (mN 51) (cd 51) (mL 51) (rT 51)) := rfl
set_option maxRecDepth 100000 in
theorem cdk_52 : lw_tbl[403]? = some (Cond.code (mN 52) (cd 52) (mL 52) (rT 52)) := rfl
set_option maxRecDepth 100000 in
theorem cdk_53 : lw_tbl[411]? = some (Cond.code (mN 53) (cd 53) (mL 53) (rT 53)) := rfl
set_option maxRecDepth 100000 in
theorem cdk_54 : lw_tbl[415]? = some (Cond.code (mN 54) (cd 54) (mL 54) (rT 54)) := rfl
set_option maxRecDepth 100000 in
theorem cdk_55 : lw_tbl[426]? = some (Cond.code (mN 55) (cd 55) (mL 55) (rT 55)) := rfl
set_option maxRecDepth 100000 in
theorem cdk_56 : lw_tbl[430]? = some (Cond.code (mN 56) (cd 56) (mL 56) (rT 56)) := rfl
set_option maxRecDepth 100000 in
theorem cdk_57 : lw_tbl[438]? = some (Cond.code (mN 57) (cd 57) (mL 57) (rT 57)) := rfl
set_option maxRecDepth 100000 in
theorem cdk_58 : lw_tbl[442]? = some (Cond.code (mN 58) (cd 58) (mL 58) (rT 58)) := rfl
set_option maxRecDepth 100000 in
theorem cdk_59 : lw_tbl[458]? = some (Cond.code (mN 59) (cd 59) (mL 59) (rT 59)) := rfl
set_option maxRecDepth 100000 in
theorem cdk_60 : lw_tbl[466]? = some (Cond.code (mN 60) (cd 60) (mL 60) (rT 60)) := rfl
set_option maxRecDepth 100000 in
theorem cdk_61 : lw_tbl[478]? = some (Cond.code (mN 61) (cd 61) (mL 61) (rT 61)) := rfl
set_option maxRecDepth 100000 in
theorem cdk_62 : lw_tbl[482]? = some (Cond.code (mN 62) (cd 62) (mL 62) (rT 62)) := rfl
set_option maxRecDepth 100000 in
theorem cdk_63 : lw_tbl[496]? = some (Cond.code (mN 63) (cd 63) (mL 63) (rT 63)) := rfl
set_option maxRecDepth 100000 in
theorem cdk_64 : lw_tbl[510]? = some (Cond.code (mN 64) (cd 64) (mL 64) (rT 64)) := rfl
set_option maxRecDepth 100000 in
theorem cdk_65 : lw_tbl[514]? = some (Cond.code (mN 65) (cd 65) (mL 65) (rT 65)) := rfl
set_option maxRecDepth 100000 in
theorem cdk_66 : lw_tbl[518]? = some (Cond.code (mN 66) (cd 66) (mL 66) (rT 66)) := rfl
set_option maxRecDepth 100000 in
theorem cdk_67 : lw_tbl[522]? = some (Cond.code (mN 67) (cd 67) (mL 67) (rT 67)) := rfl
set_option maxRecDepth 100000 in
theorem cdk_68 : lw_tbl[526]? = some (Cond.code (mN 68) (cd 68) (mL 68) (rT 68)) := rfl
set_option maxRecDepth 100000 in
theorem cdk_69 : lw_tbl[530]? = some (Cond.code (mN 69) (cd 69) (mL 69) (rT 69)) := rfl
set_option maxRecDepth 100000 in
theorem cdk_70 : lw_tbl[626]? = some (Cond.code (mN 70) (cd 70) (mL 70) (rT 70)) := rfl
set_option maxRecDepth 100000 in
theorem cdk_71 : lw_tbl[635]? = some (Cond.code (mN 71) (cd 71) (mL 71) (rT 71)) := rfl
set_option maxRecDepth 100000 in
theorem cdk_72 : lw_tbl[639]? = some (Cond.code (mN 72) (cd 72) (mL 72) (rT 72)) := rfl
set_option maxRecDepth 100000 in
theorem cdk_73 : lw_tbl[643]? = some (Cond.code (mN 73) (cd 73) (mL 73) (rT 73)) := rfl
set_option maxRecDepth 100000 in
theorem cdk_74 : lw_tbl[652]? = some (Cond.code (mN 74) (cd 74) (mL 74) (rT 74)) := rfl
set_option maxRecDepth 100000 in
theorem cdk_75 : lw_tbl[700]? = some (Cond.code (mN 75) (cd 75) (mL 75) (rT 75)) := rfl
set_option maxRecDepth 100000 in
theorem cdk_76 : lw_tbl[704]? = some (Cond.code (mN 76) (cd 76) (mL 76) (rT 76)) := rfl
set_option maxRecDepth 100000 in
theorem cdk_77 : lw_tbl[708]? = some (Cond.code (mN 77) (cd 77) (mL 77) (rT 77)) := rfl
set_option maxRecDepth 100000 in
theorem cdk_78 : lw_tbl[737]? = some (Cond.code (mN 78) (cd 78) (mL 78) (rT 78)) := rfl
set_option maxRecDepth 100000 in
theorem cdk_79 : lw_tbl[741]? = some (Cond.code (mN 79) (cd 79) (mL 79) (rT 79)) := rfl
set_option maxRecDepth 100000 in
theorem cdk_80 : lw_tbl[745]? = some (Cond.code (mN 80) (cd 80) (mL 80) (rT 80)) := rfl
set_option maxRecDepth 100000 in
theorem cdk_81 : lw_tbl[764]? = some (Cond.code (mN 81) (cd 81) (mL 81) (rT 81)) := rfl
set_option maxRecDepth 100000 in
theorem cdk_82 : lw_tbl[768]? = some (Cond.code (mN 82) (cd 82) (mL 82) (rT 82)) := rfl
set_option maxRecDepth 100000 in
theorem cdk_83 : lw_tbl[772]? = some (Cond.code (mN 83) (cd 83) (mL 83) (rT 83)) := rfl
set_option maxRecDepth 100000 in
theorem cdk_84 : lw_tbl[776]? = some (Cond.code (mN 84) (cd 84) (mL 84) (rT 84)) := rfl
set_option maxRecDepth 100000 in
theorem cdk_85 : lw_tbl[780]? = some (Cond.code (mN 85) (cd 85) (mL 85) (rT 85)) := rfl
set_option maxRecDepth 100000 in
theorem cdk_86 : lw_tbl[789]? = some (Cond.code (mN 86) (cd 86) (mL 86) (rT 86)) := rfl
set_option maxRecDepth 100000 in
theorem cdk_87 : lw_tbl[793]? = some (Cond.code (mN 87) (cd 87) (mL 87) (rT 87)) := rfl
set_option maxRecDepth 100000 in
theorem cdk_88 : lw_tbl[797]? = some (Cond.code (mN 88) (cd 88) (mL 88) (rT 88)) := rfl
set_option maxRecDepth 100000 in
theorem cdk_89 : lw_tbl[802]? = some (Cond.code (mN 89) (cd 89) (mL 89) (rT 89)) := rfl
set_option maxRecDepth 100000 in
theorem cdk_90 : lw_tbl[812]? = some (Cond.code (mN 90) (cd 90) (mL 90) (rT 90)) := rfl
set_option maxRecDepth 100000 in
theorem cdk_91 : lw_tbl[983]? = some (Cond.code (mN 91) (cd 91) (mL 91) (rT 91)) := rfl
set_option maxRecDepth 100000 in
theorem cdk_92 : lw_tbl[987]? = some (Cond.code (mN 92) (cd 92) (mL 92) (rT 92)) := rfl
set_option maxRecDepth 100000 in
theorem cdk_93 : lw_tbl[991]? = some (Cond.code (mN 93) (cd 93) (mL 93) (rT 93)) := rfl
set_option maxRecDepth 100000 in
theorem cdk_94 : lw_tbl[995]? = some (Cond.code (mN 94) (cd 94) (mL 94) (rT 94)) := rfl
set_option maxRecDepth 100000 in
theorem cdk_95 : lw_tbl[1000]? = some (Cond.code (mN 95) (cd 95) (mL 95) (rT 95)) := rfl
set_option maxRecDepth 100000 in
theorem cdk_96 : lw_tbl[1004]? = some (Cond.code (mN 96) (cd 96) (mL 96) (rT 96)) := rfl
set_option maxRecDepth 100000 in
theorem cdk_97 : lw_tbl[1008]? = some (Cond.code (mN 97) (cd 97) (mL 97) (rT 97)) := rfl
set_option maxRecDepth 100000 in
theorem cdk_98 : lw_tbl[1012]? = some (Cond.code (mN 98) (cd 98) (mL 98) (rT 98)) := rfl
set_option maxRecDepth 100000 in
theorem cdk_99 : lw_tbl[1016]? = some (Cond.code (mN 99) (cd 99) (mL 99) (rT 99)) := rfl
set_option maxRecDepth 100000 in
theorem cdk_100 : lw_tbl[1020]? = some (Cond.code (mN 100) (cd 100) (mL 100) (rT 100)) := rfl
set_option maxRecDepth 100000 in
theorem cdk_101 : lw_tbl[1024]? = some (Cond.code (mN 101) (cd 101) (mL 101) (rT 101)) := rfl
set_option maxRecDepth 100000 in
theorem cdk_102 : lw_tbl[1028]? = some (Cond.code (mN 102) (cd 102) (mL 102) (rT 102)) := rfl
set_option maxRecDepth 100000 in
theorem cdk_103 : lw_tbl[1032]? = some (Cond.code (mN 103) (cd 103) (mL 103) (rT 103)) := rfl
set_option maxRecDepth 100000 in
theorem cdk_104 : lw_tbl[1036]? = some (Cond.code (mN 104) (cd 104) (mL 104) (rT 104)) := rfl
set_option maxRecDepth 100000 in
theorem cdk_105 : lw_tbl[1040]? = some (Cond.code (mN 105) (cd 105) (mL 105) (rT 105)) := rfl
set_option maxRecDepth 100000 in
theorem cdk_106 : lw_tbl[1044]? = some (Cond.code (mN 106) (cd 106) (mL 106) (rT 106)) := rfl
set_option maxRecDepth 100000 in
theorem cdk_107 : lw_tbl[1048]? = some (Cond.code (mN 107) (cd 107) (mL 107) (rT 107)) := rfl
set_option maxRecDepth 100000 in
theorem cdk_108 : lw_tbl[1052]? = some (Cond.code (mN 108) (cd 108) (mL 108) (rT 108)) := rfl
set_option maxRecDepth 100000 in
theorem cdk_109 : lw_tbl[1056]? = some (Cond.code (mN 109) (cd 109) (mL 109) (rT 109)) := rfl
set_option maxRecDepth 100000 in
theorem cdk_110 : lw_tbl[1060]? = some (Cond.code (mN 110) (cd 110) (mL 110) (rT 110)) := rfl
set_option maxRecDepth 100000 in
theorem cdk_111 : lw_tbl[1064]? = some (Cond.code (mN 111) (cd 111) (mL 111) (rT 111)) := rfl
set_option maxRecDepth 100000 in
theorem cdk_112 : lw_tbl[1068]? = some (Cond.code (mN 112) (cd 112) (mL 112) (rT 112)) := rfl
set_option maxRecDepth 100000 in
theorem cdk_113 : lw_tbl[1072]? = some (Cond.code (mN 113) (cd 113) (mL 113) (rT 113)) := rfl
set_option maxRecDepth 100000 in
theorem cdk_114 : lw_tbl[1076]? = some (Cond.code (mN 114) (cd 114) (mL 114) (rT 114)) := rfl
set_option maxRecDepth 100000 in
theorem cdk_115 : lw_tbl[1080]? = some (Cond.code (mN 115) (cd 115) (mL 115) (rT 115)) := rfl
set_option maxRecDepth 100000 in
theorem cdk_116 : lw_tbl[1084]? = some (Cond.code (mN 116) (cd 116) (mL 116) (rT 116)) := rfl
set_option maxRecDepth 100000 in
theorem cdk_117 : lw_tbl[1088]? = some (Cond.code (mN 117) (cd 117) (mL 117) (rT 117)) := rfl
set_option maxRecDepth 100000 in
theorem cdk_118 : lw_tbl[1092]? = some (Cond.code (mN 118) (cd 118) (mL 118) (rT 118)) := rfl
set_option maxRecDepth 100000 in
theorem cdk_119 : lw_tbl[1096]? = some (Cond.code (mN 119) (cd 119) (mL 119) (rT 119)) := rfl
set_option maxRecDepth 100000 in
theorem cdk_120 : lw_tbl[1100]? = some (Cond.code (mN 120) (cd 120) (mL 120) (rT 120)) := rfl
set_option maxRecDepth 100000 in
theorem cdk_121 : lw_tbl[1106]? = some (Cond.code (mN 121) (cd 121) (mL 121) (rT 121)) := rfl
set_option maxRecDepth 100000 in
theorem cdk_122 : lw_tbl[1112]? = some (Cond.code (mN 122) (cd 122) (mL 122) (rT 122)) := rfl
set_option maxRecDepth 100000 in
theorem cdk_123 : lw_tbl[1118]? = some (Cond.code (mN 123) (cd 123) (mL 123) (rT 123)) := rfl
set_option maxRecDepth 100000 in
theorem cdk_124 : lw_tbl[1127]? = some (Cond.code (mN 124) (cd 124) (mL 124) (rT 124)) := rfl
set_option maxRecDepth 100000 in
theorem cdk_125 : lw_tbl[1131]? = some (Cond.code (mN 125) (cd 125) (mL 125) (rT 125)) := rfl
set_option maxRecDepth 100000 in
theorem cdk_126 : lw_tbl[1135]? = some (Cond.code (mN 126) (cd 126) (mL 126) (rT 126)) := rfl
set_option maxRecDepth 100000 in
theorem cdk_127 : lw_tbl[1139]? = some (Cond.code (mN 127) (cd 127) (mL 127) (rT 127)) := rfl
set_option maxRecDepth 100000 in
theorem cdk_128 : lw_tbl[1143]? = some (Cond.code (mN 128) (cd 128) (mL 128) (rT 128)) := rfl
set_option maxRecDepth 100000 in
theorem cdk_129 : lw_tbl[1147]? = some (Cond.code (mN 129) (cd 129) (mL 129) (rT 129)) := rfl
set_option maxRecDepth 100000 in
theorem cdk_130 : lw_tbl[1151]? = some (Cond.code (mN 130) (cd 130) (mL 130) (rT 130)) := rfl
set_option maxRecDepth 100000 in
theorem cdk_131 : lw_tbl[1155]? = some (Cond.code (mN 131) (cd 131) (mL 131) (rT 131)) := rfl
set_option maxRecDepth 100000 in
theorem cdk_132 : lw_tbl[1159]? = some (Cond.code (mN 132) (cd 132) (mL 132) (rT 132)) := rfl
set_option maxRecDepth 100000 in
theorem cdk_133 : lw_tbl[1163]? = some (Cond.code (mN 133) (cd 133) (mL 133) (rT 133)) := rfl
set_option maxRecDepth 100000 in
theorem cdk_134 : lw_tbl[1168]? = some (Cond.code (mN 134) (cd 134) (mL 134) (rT 134)) := rfl
set_option maxRecDepth 100000 in
theorem cdk_135 : lw_tbl[1172]? = some (Cond.code (mN 135) (cd 135) (mL 135) (rT 135)) := rfl
set_option maxRecDepth 100000 in
theorem cdk_136 : lw_tbl[1176]? = some (Cond.code (mN 136) (cd 136) (mL 136) (rT 136)) := rfl
set_option maxRecDepth 100000 in
theorem cdk_137 : lw_tbl[1180]? = some (Cond.code (mN 137) (cd 137) (mL 137) (rT 137)) := rfl
set_option maxRecDepth 100000 in
theorem cdk_138 : lw_tbl[1184]? = some (Cond.code (mN 138) (cd 138) (mL 138) (rT 138)) := rfl
set_option maxRecDepth 100000 in
theorem cdk_139 : lw_tbl[1188]? = some (Cond.code (mN 139) (cd 139) (mL 139) (rT 139)) := rfl
set_option maxRecDepth 100000 in
theorem cdk_140 : lw_tbl[1192]? = some (Cond.code (mN 140) (cd 140) (mL 140) (rT 140)) := rfl
set_option maxRecDepth 100000 in
theorem cdk_141 : lw_tbl[1196]? = some (Cond.code (mN 141) (cd 141) (mL 141) (rT 141)) := rfl
set_option maxRecDepth 100000 in
theorem cdk_142 : lw_tbl[1200]? = some (Cond.code (mN 142) (cd 142) (mL 142) (rT 142)) := rfl
set_option maxRecDepth 100000 in
theorem cdk_143 : lw_tbl[1204]? = some (Cond.code (mN 143) (cd 143) (mL 143) (rT 143)) := rfl
set_option maxRecDepth 100000 in
theorem cdk_144 : lw_tbl[1208]? = some (Cond.code (mN 144) (cd 144) (mL 144) (rT 144)) := rfl
set_option maxRecDepth 100000 in
theorem cdk_145 : lw_tbl[1212]? = some (Cond.code (mN 145) (cd 145) (mL 145) (rT 145)) := rfl
set_option maxRecDepth 100000 in
theorem cdk_146 : lw_tbl[1216]? = some (Cond.code (mN 146) (cd 146) (mL 146) (rT 146)) := rfl
set_option maxRecDepth 100000 in
theorem cdk_147 : lw_tbl[422]? = some (Cond.code (mN 147) (cd 147) (mL 147) (rT 147)) := rfl
set_option maxRecDepth 100000 in
theorem cdk_148 : lw_tbl[503]? = some (Cond.code (mN 148) (cd 148) (mL 148) (rT 148)) := rfl
set_option maxRecDepth 100000 in
theorem cdk_149 : lw_tbl[506]? = some (Cond.code (mN 149) (cd 149) (mL 149) (rT 149)) := rfl
set_option maxRecDepth 100000 in
theorem cdk_150 : lw_tbl[242]? = some (Cond.code (mN 150) (cd 150) (mL 150) (rT 150)) := rfl
set_option maxRecDepth 100000 in
theorem cdg_0 : ∀ y ∈ [0, 1, 2, 3, 4, 5, 6, 7, 8, 9, 10, 11, 12, 13, 14, 15], lw_tbl[cdp y]? = some (Cond.code (mN y) (cd y) (mL y) (rT y)) := List.forall_mem_cons.mpr ⟨cdk_0, List.forall_mem_cons.mpr ⟨cdk_1, List.forall_mem_cons.mpr ⟨cdk_2, List.forall_mem_cons.mpr ⟨cdk_3, List.forall_mem_cons.mpr ⟨cdk_4, List.forall_mem_cons.mpr ⟨cdk_5, List.forall_mem_cons.mpr ⟨cdk_6, List.forall_mem_cons.mpr ⟨cdk_7, List.forall_mem_cons.mpr ⟨cdk_8, List.forall_mem_cons.mpr ⟨cdk_9, List.forall_mem_cons.mpr ⟨cdk_10, List.forall_mem_cons.mpr ⟨cdk_11, List.forall_mem_cons.mpr ⟨cdk_12, List.forall_mem_cons.mpr ⟨cdk_13, List.forall_mem_cons.mpr ⟨cdk_14, List.forall_mem_cons.mpr ⟨cdk_15, fun _ h => absurd h List.not_mem_nil⟩⟩⟩⟩⟩⟩⟩⟩⟩⟩⟩⟩⟩⟩⟩⟩
set_option maxRecDepth 100000 in
theorem cdg_1 : ∀ y ∈ [16, 17, 18, 19, 20, 21, 22, 23, 24, 25, 26, 27, 28, 29, 30, 31], lw_tbl[cdp y]? = some (Cond.code (mN y) (cd y) (mL y) (rT y)) := List.forall_mem_cons.mpr ⟨cdk_16, List.forall_mem_cons.mpr ⟨cdk_17, List.forall_mem_cons.mpr ⟨cdk_18, List.forall_mem_cons.mpr ⟨cdk_19, List.forall_mem_cons.mpr ⟨cdk_20, List.forall_mem_cons.mpr ⟨cdk_21, List.forall_mem_cons.mpr ⟨cdk_22, List.forall_mem_cons.mpr ⟨cdk_23, List.forall_mem_cons.mpr ⟨cdk_24, List.forall_mem_cons.mpr ⟨cdk_25, List.forall_mem_cons.mpr ⟨cdk_26, List.forall_mem_cons.mpr ⟨cdk_27, List.forall_mem_cons.mpr ⟨cdk_28, List.forall_mem_cons.mpr ⟨cdk_29, List.forall_mem_cons.mpr ⟨cdk_30, List.forall_mem_cons.mpr ⟨cdk_31, fun _ h => absurd h List.not_mem_nil⟩⟩⟩⟩⟩⟩⟩⟩⟩⟩⟩⟩⟩⟩⟩⟩
set_option maxRecDepth 100000 in
theorem cdg_2 : ∀ y ∈ [32, 33, 34, 35, 36, 37, 38, 39, 40, 41, 42, 43, 44, 45, 46, 47], lw_tbl[cdp y]? = some (Cond.code (mN y) (cd y) (mL y) (rT y)) := List.forall_mem_cons.mpr ⟨cdk_32, List.forall_mem_cons.mpr ⟨cdk_33, List.forall_mem_cons.mpr ⟨cdk_34, List.forall_mem_cons.mpr ⟨cdk_35, List.forall_mem_cons.mpr ⟨cdk_36, List.forall_mem_cons.mpr ⟨cdk_37, List.forall_mem_cons.mpr ⟨cdk_38, List.forall_mem_cons.mpr ⟨cdk_39, List.forall_mem_cons.mpr ⟨cdk_40, List.forall_mem_cons.mpr ⟨cdk_41, List.forall_mem_cons.mpr ⟨cdk_42, List.forall_mem_cons.mpr ⟨cdk_43, List.forall_mem_cons.mpr ⟨cdk_44, List.forall_mem_cons.mpr ⟨cdk_45, List.forall_mem_cons.mpr ⟨cdk_46, List.forall_mem_cons.mpr ⟨cdk_47, fun _ h => absurd h List.not_mem_nil⟩⟩⟩⟩⟩⟩⟩⟩⟩⟩⟩⟩⟩⟩⟩⟩
set_option maxRecDepth 100000 in
theorem cdg_3 : ∀ y ∈ [48, 49, 50, 51, 52, 53, 54, 55, 56, 57, 58, 59, 60, 61, 62, 63], lw_tbl[cdp y]? = some (Cond.code (mN y) (cd y) (mL y) (rT y)) := List.forall_mem_cons.mpr ⟨cdk_48, List.forall_mem_cons.mpr ⟨cdk_49, List.forall_mem_cons.mpr ⟨cdk_50, List.forall_mem_cons.mpr ⟨cdk_51, List.forall_mem_cons.mpr ⟨cdk_52, List.forall_mem_cons.mpr ⟨cdk_53, List.forall_mem_cons.mpr ⟨cdk_54, List.forall_mem_cons.mpr ⟨cdk_55, List.forall_mem_cons.mpr ⟨cdk_56, List.forall_mem_cons.mpr ⟨cdk_57, List.forall_mem_cons.mpr ⟨cdk_58, List.forall_mem_cons.mpr ⟨cdk_59, List.forall_mem_cons.mpr ⟨cdk_60, List.forall_mem_cons.mpr ⟨cdk_61, List.forall_mem_cons.mpr ⟨cdk_62, List.forall_mem_cons.mpr ⟨cdk_63, fun _ h => absurd h List.not_mem_nil⟩⟩⟩⟩⟩⟩⟩⟩⟩⟩⟩⟩⟩⟩⟩⟩
set_option maxRecDepth 100000 in
theorem cdg_4 : ∀ y ∈ [64, 65, 66, 67, 68, 69, 70, 71, 72, 73, 74, 75, 76, 77, 78, 79], lw_tbl[cdp y]? = some (Cond.code (mN y) (cd y) (mL y) (rT y)) := List.forall_mem_cons.mpr ⟨cdk_64, List.forall_mem_cons.mpr ⟨cdk_65, List.forall_mem_cons.mpr ⟨cdk_66, List.forall_mem_cons.mpr ⟨cdk_67, List.forall_mem_cons.mpr ⟨cdk_68, List.forall_mem_cons.mpr ⟨cdk_69, List.forall_mem_cons.mpr ⟨cdk_70, List.forall_mem_cons.mpr ⟨cdk_71, List.forall_mem_cons.mpr ⟨cdk_72, List.forall_mem_cons.mpr ⟨cdk_73, List.forall_mem_cons.mpr ⟨cdk_74, List.forall_mem_cons.mpr ⟨cdk_75, List.forall_mem_cons.mpr ⟨cdk_76, List.forall_mem_cons.mpr ⟨cdk_77, List.forall_mem_cons.mpr ⟨cdk_78, List.forall_mem_cons.mpr ⟨cdk_79, fun _ h => absurd h List.not_mem_nil⟩⟩⟩⟩⟩⟩⟩⟩⟩⟩⟩⟩⟩⟩⟩⟩
set_option maxRecDepth 100000 in
theorem cdg_5 : ∀ y ∈ [80, 81, 82, 83, 84, 85, 86, 87, 88, 89, 90, 91, 92, 93, 94, 95], lw_tbl[cdp y]? = some (Cond.code (mN y) (cd y) (mL y) (rT y)) := List.forall_mem_cons.mpr ⟨cdk_80, List.forall_mem_cons.mpr ⟨cdk_81, List.forall_mem_cons.mpr ⟨cdk_82, List.forall_mem_cons.mpr ⟨cdk_83, List.forall_mem_cons.mpr ⟨cdk_84, List.forall_mem_cons.mpr ⟨cdk_85, List.forall_mem_cons.mpr ⟨cdk_86, List.forall_mem_cons.mpr ⟨cdk_87, List.forall_mem_cons.mpr ⟨cdk_88, List.forall_mem_cons.mpr ⟨cdk_89, List.forall_mem_cons.mpr ⟨cdk_90, List.forall_mem_cons.mpr ⟨cdk_91, List.forall_mem_cons.mpr ⟨cdk_92, List.forall_mem_cons.mpr ⟨cdk_93, List.forall_mem_cons.mpr ⟨cdk_94, List.forall_mem_cons.mpr ⟨cdk_95, fun _ h => absurd h List.not_mem_nil⟩⟩⟩⟩⟩⟩⟩⟩⟩⟩⟩⟩⟩⟩⟩⟩
set_option maxRecDepth 100000 in
theorem cdg_6 : ∀ y ∈ [96, 97, 98, 99, 100, 101, 102, 103, 104, 105, 106, 107, 108, 109, 110, 111], lw_tbl[cdp y]? = some (Cond.code (mN y) (cd y) (mL y) (rT y)) := List.forall_mem_cons.mpr ⟨cdk_96, List.forall_mem_cons.mpr ⟨cdk_97, List.forall_mem_cons.mpr ⟨cdk_98, List.forall_mem_cons.mpr ⟨cdk_99, List.forall_mem_cons.mpr ⟨cdk_100, List.forall_mem_cons.mpr ⟨cdk_101, List.forall_mem_cons.mpr ⟨cdk_102, List.forall_mem_cons.mpr ⟨cdk_103, List.forall_mem_cons.mpr ⟨cdk_104, List.forall_mem_cons.mpr ⟨cdk_105, List.forall_mem_cons.mpr ⟨cdk_106, List.forall_mem_cons.mpr ⟨cdk_107, List.forall_mem_cons.mpr ⟨cdk_108, List.forall_mem_cons.mpr ⟨cdk_109, List.forall_mem_cons.mpr ⟨cdk_110, List.forall_mem_cons.mpr ⟨cdk_111, fun _ h => absurd h List.not_mem_nil⟩⟩⟩⟩⟩⟩⟩⟩⟩⟩⟩⟩⟩⟩⟩⟩
set_option maxRecDepth 100000 in
theorem cdg_7 : ∀ y ∈ [112, 113, 114, 115, 116, 117, 118, 119, 120, 121, 122, 123, 124, 125, 126, 127], lw_tbl[cdp y]? = some (Cond.code (mN y) (cd y) (mL y) (rT y)) := List.forall_mem_cons.mpr ⟨cdk_112, List.forall_mem_cons.mpr ⟨cdk_113, List.forall_mem_cons.mpr ⟨cdk_114, List.forall_mem_cons.mpr ⟨cdk_115, List.forall_mem_cons.mpr ⟨cdk_116, List.forall_mem_cons.mpr ⟨cdk_117, List.forall_mem_cons.mpr ⟨cdk_118, List.forall_mem_cons.mpr ⟨cdk_119, List.forall_mem_cons.mpr ⟨cdk_120, List.forall_mem_cons.mpr ⟨cdk_121, List.forall_mem_cons.mpr ⟨cdk_122, List.forall_mem_cons.mpr ⟨cdk_123, List.forall_mem_cons.mpr ⟨cdk_124, List.forall_mem_cons.mpr ⟨cdk_125, List.forall_mem_cons.mpr ⟨cdk_126, List.forall_mem_cons.mpr ⟨cdk_127, fun _ h => absurd h List.not_mem_nil⟩⟩⟩⟩⟩⟩⟩⟩⟩⟩⟩⟩⟩⟩⟩⟩
set_option maxRecDepth 100000 in
theorem cdg_8 : ∀ y ∈ [128, 129, 130, 131, 132, 133, 134, 135, 136, 137, 138, 139, 140, 141, 142, 143], lw_tbl[cdp y]? = some (Cond.code (mN y) (cd y) (mL y) (rT y)) := List.forall_mem_cons.mpr ⟨cdk_128, List.forall_mem_cons.mpr ⟨cdk_129, List.forall_mem_cons.mpr ⟨cdk_130, List.forall_mem_cons.mpr ⟨cdk_131, List.forall_mem_cons.mpr ⟨cdk_132, List.forall_mem_cons.mpr ⟨cdk_133, List.forall_mem_cons.mpr ⟨cdk_134, List.forall_mem_cons.mpr ⟨cdk_135, List.forall_mem_cons.mpr ⟨cdk_136, List.forall_mem_cons.mpr ⟨cdk_137, List.forall_mem_cons.mpr ⟨cdk_138, List.forall_mem_cons.mpr ⟨cdk_139, List.forall_mem_cons.mpr ⟨cdk_140, List.forall_mem_cons.mpr ⟨cdk_141, List.forall_mem_cons.mpr ⟨cdk_142, List.forall_mem_cons.mpr ⟨cdk_143, fun _ h => absurd h List.not_mem_nil⟩⟩⟩⟩⟩⟩⟩⟩⟩⟩⟩⟩⟩⟩⟩⟩
set_option maxRecDepth 100000 in
theorem cdg_9 : ∀ y ∈ [144, 145, 146, 147, 148, 149, 150], lw_tbl[cdp y]? = some (Cond.code (mN y) (cd y) (mL y) (rT y)) := List.forall_mem_cons.mpr ⟨cdk_144, List.forall_mem_cons.mpr ⟨cdk_145, List.forall_mem_cons.mpr ⟨cdk_146, List.forall_mem_cons.mpr ⟨cdk_147, List.forall_mem_cons.mpr ⟨cdk_148, List.forall_mem_cons.mpr ⟨cdk_149, List.forall_mem_cons.mpr ⟨cdk_150, fun _ h => absurd h List.not_mem_nil⟩⟩⟩⟩⟩⟩⟩
theorem cd_in : ∀ y, y < nM → y ∈ ([0, 1, 2, 3, 4, 5, 6, 7, 8, 9, 10, 11, 12, 13, 14, 15] : List Nat) ∨ y ∈ ([16, 17, 18, 19, 20, 21, 22, 23, 24, 25, 26, 27, 28, 29, 30, 31] : List Nat) ∨ y ∈ ([32, 33, 34, 35, 36, 37, 38, 39, 40, 41, 42, 43, 44, 45, 46, 47] : List Nat) ∨ y ∈ ([48, 49, 50, 51, 52, 53, 54, 55, 56, 57, 58, 59, 60, 61, 62, 63] : List Nat) ∨ y ∈ ([64, 65, 66, 67, 68, 69, 70, 71, 72, 73, 74, 75, 76, 77, 78, 79] : List Nat) ∨ y ∈ ([80, 81, 82, 83, 84, 85, 86, 87, 88, 89, 90, 91, 92, 93, 94, 95] : List Nat) ∨ y ∈ ([96, 97, 98, 99, 100, 101, 102, 103, 104, 105, 106, 107, 108, 109, 110, 111] : List Nat) ∨ y ∈ ([112, 113, 114, 115, 116, 117, 118, 119, 120, 121, 122, 123, 124, 125, 126, 127] : List Nat) ∨ y ∈ ([128, 129, 130, 131, 132, 133, 134, 135, 136, 137, 138, 139, 140, 141, 142, 143] : List Nat) ∨ y ∈ ([144, 145, 146, 147, 148, 149, 150] : List Nat) := by decide +kernel
theorem cd_ok : ∀ y, y < nM → Cond.code (mN y) (cd y) (mL y) (rT y) ∈ lwg := by
  intro y hy
  refine List.mem_filter.mpr ⟨?_, rfl⟩
  rcases cd_in y hy with h | h | h | h | h | h | h | h | h | h
  · exact List.mem_of_getElem? (cdg_0 y h)
  · exact List.mem_of_getElem? (cdg_1 y h)
  · exact List.mem_of_getElem? (cdg_2 y h)
  · exact List.mem_of_getElem? (cdg_3 y h)
  · exact List.mem_of_getElem? (cdg_4 y h)
  · exact List.mem_of_getElem? (cdg_5 y h)
  · exact List.mem_of_getElem? (cdg_6 y h)
  · exact List.mem_of_getElem? (cdg_7 y h)
  · exact List.mem_of_getElem? (cdg_8 y h)
  · exact List.mem_of_getElem? (cdg_9 y h)
theorem lay_in : ∀ ci, ci < 9 → ∀ w ∈ u_ws (RN ci) (TT ci) (NF ci), w ∈ lwg := by decide +kernel
theorem vwCl_at : ∀ ci, ci < 9 → vwCl[ci]? = some (RN ci, TT ci, NF ci) := by
  intro ci h
  match ci, h with
  | 0, _ => rfl
  | 1, _ => rfl
  | 2, _ => rfl
  | 3, _ => rfl
  | 4, _ => rfl
  | 5, _ => rfl
  | 6, _ => rfl
  | 7, _ => rfl
  | 8, _ => rfl
  | n + 9, h => exact absurd h (by omega)
theorem nm_ok : ∀ ci, ci < 9 → ∀ a, a < NF ci → ∀ b, b < NF ci → a ≠ b → (TT ci a).2.1 ≠ (TT ci b).2.1 := by
  intro ci h
  match ci, h with
  | 0, _ => exact nmX0
  | 1, _ => exact nmX1
  | 2, _ => exact nmX2
  | 3, _ => exact nmX3
  | 4, _ => exact nmX4
  | 5, _ => exact nmX5
  | 6, _ => exact nmX6
  | 7, _ => exact nmX7
  | 8, _ => exact nmX8
  | n + 9, h => exact absurd h (by omega)
theorem ty_ok : ∀ ci, ci < 9 → ∀ k, k < NF ci → parseFieldDescriptor (TT ci k).2.2.1 = some (tyT ci k) := by
  intro ci h
  match ci, h with
  | 0, _ => exact tyX0_ok
  | 1, _ => exact tyX1_ok
  | 2, _ => exact tyX2_ok
  | 3, _ => exact tyX3_ok
  | 4, _ => exact tyX4_ok
  | 5, _ => exact tyX5_ok
  | 6, _ => exact tyX6_ok
  | 7, _ => exact tyX7_ok
  | 8, _ => exact tyX8_ok
  | n + 9, h => exact absurd h (by omega)
/-- the objects of a class: their reference slots are final, the others are numbers that may be written -/
theorem kd_hi : ∀ k, 1400 ≤ k → kd k = 99 := by
  intro k h
  unfold kd
  rw [if_pos (by omega)]

/-- the type of a field: 0 a number, 1 a truth value, 2 a reference (or final) -/
def ft (ci j : Nat) : Nat := if j < 55 then (([[2, 2, 0, 0, 0, 0, 0, 0, 0, 0, 0, 1, 1, 1], [2, 2, 0, 0], [2, 1], [2, 2, 2, 1, 0, 0, 0, 0], [2, 2, 2, 2, 0, 0, 0, 0], [2, 0, 0], [0, 0, 0, 0, 0, 1], [2, 2, 2, 2, 2, 2, 2, 2, 2, 2, 2, 0, 0, 0, 0, 0, 0], [0, 0, 0, 0, 0, 0, 0, 0, 0, 2, 2, 2, 2, 2, 2, 2, 2, 2, 2, 2, 2, 2, 2, 2, 2, 2, 2, 2, 2, 2, 2, 2, 2, 2, 2, 2, 2, 2, 0, 2, 2, 2, 2, 2, 2, 2, 2, 2, 2, 2, 2, 1, 0, 0, 2]] : List (List Nat)).getD ci []).getD j 2 else 2
theorem ft_ok : ∀ ci, ci < 9 → ∀ j, j < NF ci → ft ci j < 2 → (TT ci j).2.2.2 = false ∧ (ft ci j = 0 → tyT ci j = .int) ∧ (ft ci j = 1 → tyT ci j = .boolean) := by decide +kernel
theorem put_ok0 : ∀ k, k < 1400 → kd k < 9 → ∀ j, j < 55 → ft (kd k) j < 2 → rf k j = none := by decide +kernel
theorem put_ok : ∀ k j, kd k < 9 → ft (kd k) j < 2 → rf k j = none := by
  intro k j h1 h2
  rcases Nat.lt_or_ge k 1400 with h | h
  · rcases Nat.lt_or_ge j 55 with h3 | h3
    · exact put_ok0 k h h1 j h3 h2
    · unfold ft at h2
      rw [if_neg (by omega)] at h2
      omega
  · rw [kd_hi k h] at h1
    omega
