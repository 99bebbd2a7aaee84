theorem x_0_0 {ls st : List Value} {h : Hp}  : ex 0 0 ls (st) h = gA (ldA ls 0) 0 1 ls st h := x_aload_n hc_0 dX0_begin_0 rfl rfl
theorem x_0_1 {ls st : List Value} {h : Hp}  : ex 0 1 ls (st) h = gI (ldI ls 1) 0 2 ls st h := x_iload_n hc_0 dX0_begin_1 rfl rfl
theorem x_0_2 {ls st : List Value} {h : Hp} {k : Nat} {x : Int32} : ex 0 2 ls (.int x :: .ref k :: st) h = if kd k = 0 then ex 0 5 ls st (hu h k 6 x) else none := x_putf hc_0 dX0_begin_2 rfl fr_0_31 (by decide)
theorem x_0_5 {ls st : List Value} {h : Hp}  : ex 0 5 ls (st) h = gA (ldA ls 0) 0 6 ls st h := x_aload_n hc_0 dX0_begin_5 rfl rfl
theorem x_0_6 {ls st : List Value} {h : Hp}  : ex 0 6 ls (st) h = gI (ldI ls 2) 0 7 ls st h := x_iload_n hc_0 dX0_begin_6 rfl rfl
theorem x_0_7 {ls st : List Value} {h : Hp} {k : Nat} {x : Int32} : ex 0 7 ls (.int x :: .ref k :: st) h = if kd k = 0 then ex 0 10 ls st (hu h k 3 x) else none := x_putf hc_0 dX0_begin_7 rfl fr_0_21 (by decide)
theorem x_0_10 {ls st : List Value} {h : Hp}  : ex 0 10 ls (st) h = ex 0 11 ls (.int (0) :: st) h := x_iconst hc_0 dX0_begin_10 rfl (by decide)
theorem x_0_11 {ls st : List Value} {h : Hp} {x : Int32} : ex 0 11 ls (.int x :: st) h = ex 0 13 (ls.set 4 (.int x)) st h := x_istore hc_0 dX0_begin_11 rfl (by decide)
theorem x_0_13 {ls st : List Value} {h : Hp}  : ex 0 13 ls (st) h = gI (ldI ls 4) 0 15 ls st h := x_iload hc_0 dX0_begin_13 rfl
theorem x_0_15 {ls st : List Value} {h : Hp}  : ex 0 15 ls (st) h = ex 0 16 ls (.int (4) :: st) h := x_iconst hc_0 dX0_begin_15 rfl (by decide)
theorem x_0_16 {ls st : List Value} {h : Hp} {x z : Int32} : ex 0 16 ls (.int z :: .int x :: st) h = if x < z then ex 0 19 ls st h else ex 0 36 ls st h := x_icmp_ge hc_0 dX0_begin_16 rfl (by decide)
theorem x_0_19 {ls st : List Value} {h : Hp}  : ex 0 19 ls (st) h = gA (ldA ls 0) 0 20 ls st h := x_aload_n hc_0 dX0_begin_19 rfl rfl
theorem x_0_20 {ls st : List Value} {h : Hp} {k : Nat} : ex 0 20 ls (.ref k :: st) h = if kd k = 0 then ex 0 23 ls (vl h k 0 :: st) h else none := x_getf hc_0 dX0_begin_20 rfl fr_0_11
theorem x_0_23 {ls st : List Value} {h : Hp}  : ex 0 23 ls (st) h = gI (ldI ls 4) 0 25 ls st h := x_iload hc_0 dX0_begin_23 rfl
theorem x_0_25 {ls st : List Value} {h : Hp} {k : Nat} {x : Int32} : ex 0 25 ls (.int x :: .ref k :: st) h = if (11 ≤ kd k ∧ kd k ≤ 14) ∧ x.toNatClampNeg < ln k ∧ 0 ≤ x then gA (rf k x.toNatClampNeg) 0 26 ls st h else none := x_aald hc_0 dX0_begin_25 rfl
theorem x_0_26 {ls st : List Value} {h : Hp}  : ex 0 26 ls (st) h = gI (ldI ls 3) 0 27 ls st h := x_iload_n hc_0 dX0_begin_26 rfl rfl
theorem x_0_27 {ls st : List Value} {h : Hp} {k : Nat} {x : Int32} : ex 0 27 ls (.int x :: .ref k :: st) h = if kd k = 6 then ex 0 30 ls st (hu h k 0 x) else none := x_putf hc_0 dX0_begin_27 rfl fr_0_60 (by decide)
theorem x_0_30 {ls st : List Value} {h : Hp}  : ex 0 30 ls (st) h = gN (ldI ls 4) 0 33 ls 4 (1) st h := x_iinc hc_0 dX0_begin_30 rfl (by decide) (by decide)
theorem x_0_33 {ls st : List Value} {h : Hp}  : ex 0 33 ls (st) h = ex 0 13 ls st h := x_goto hc_0 dX0_begin_33 (by decide)
theorem x_0_36 {ls : List Value} {h : Hp} : ex 0 36 ls [] h = some (none, h) := x_vret hc_0 dX0_begin_36 rfl
theorem x_1_0 {ls st : List Value} {h : Hp}  : ex 1 0 ls (st) h = gA (ldA ls 0) 1 1 ls st h := x_aload_n hc_1 dX0_goes_0 rfl rfl
theorem x_1_1 {ls st : List Value} {h : Hp} {k : Nat} : ex 1 1 ls (.ref k :: st) h = if kd k = 0 then ex 1 4 ls (vl h k 7 :: st) h else none := x_getf hc_1 dX0_goes_1 rfl fr_0_34
theorem x_1_4 {ls st : List Value} {h : Hp}  : ex 1 4 ls (st) h = ex 1 5 ls (.int (-1) :: st) h := x_iconst hc_1 dX0_goes_4 rfl (by decide)
theorem x_1_5 {ls st : List Value} {h : Hp} {x z : Int32} : ex 1 5 ls (.int z :: .int x :: st) h = if x = z then ex 1 12 ls st h else ex 1 8 ls st h := x_icmp_eq hc_1 dX0_goes_5 rfl (by decide)
theorem x_1_8 {ls st : List Value} {h : Hp}  : ex 1 8 ls (st) h = ex 1 9 ls (.int (1) :: st) h := x_iconst hc_1 dX0_goes_8 rfl (by decide)
theorem x_1_9 {ls st : List Value} {h : Hp}  : ex 1 9 ls (st) h = ex 1 13 ls st h := x_goto hc_1 dX0_goes_9 (by decide)
theorem x_1_12 {ls st : List Value} {h : Hp}  : ex 1 12 ls (st) h = ex 1 13 ls (.int (0) :: st) h := x_iconst hc_1 dX0_goes_12 rfl (by decide)
theorem x_1_13 {ls : List Value} {h : Hp} {v : Int32} : ex 1 13 ls [.int v] h = if v = 0 ∨ v = 1 then some (some (.int v), h) else none := x_zret hc_1 dX0_goes_13 rfl
theorem x_2_0 {ls st : List Value} {h : Hp}  : ex 2 0 ls (st) h = gA (ldA ls 0) 2 1 ls st h := x_aload_n hc_2 dX0_isOnLeg_0 rfl rfl
theorem x_2_1 {ls st : List Value} {h : Hp} {k : Nat} : ex 2 1 ls (.ref k :: st) h = if kd k = 0 then ex 2 4 ls (vl h k 8 :: st) h else none := x_getf hc_2 dX0_isOnLeg_1 rfl fr_0_37
theorem x_2_4 {ls st : List Value} {h : Hp} {x : Int32} : ex 2 4 ls (.int x :: st) h = if 0 < x then ex 2 7 ls st h else ex 2 11 ls st h := x_if_le hc_2 dX0_isOnLeg_4 rfl (by decide)
theorem x_2_7 {ls st : List Value} {h : Hp}  : ex 2 7 ls (st) h = ex 2 8 ls (.int (1) :: st) h := x_iconst hc_2 dX0_isOnLeg_7 rfl (by decide)
theorem x_2_8 {ls st : List Value} {h : Hp}  : ex 2 8 ls (st) h = ex 2 12 ls st h := x_goto hc_2 dX0_isOnLeg_8 (by decide)
theorem x_2_11 {ls st : List Value} {h : Hp}  : ex 2 11 ls (st) h = ex 2 12 ls (.int (0) :: st) h := x_iconst hc_2 dX0_isOnLeg_11 rfl (by decide)
theorem x_2_12 {ls : List Value} {h : Hp} {v : Int32} : ex 2 12 ls [.int v] h = if v = 0 ∨ v = 1 then some (some (.int v), h) else none := x_zret hc_2 dX0_isOnLeg_12 rfl
theorem x_3_0 {ls st : List Value} {h : Hp}  : ex 3 0 ls (st) h = gA (ldA ls 0) 3 1 ls st h := x_aload_n hc_3 dX0_canHeadFor_0 rfl rfl
theorem x_3_1 {ls st : List Value} {h : Hp} {k : Nat}  : ex 3 1 ls (.ref k :: st) h = if kd k = 0 ∧ st.length ≤ 4 then gC (ex 2 0 [.ref k] [] h) 3 4 ls st else none := x_callV (as := []) hc_3 dX0_canHeadFor_1 rfl mr_0_63 rfl rfl rfl (by decide) (by decide)
theorem x_3_4 {ls st : List Value} {h : Hp} {x : Int32} : ex 3 4 ls (.int x :: st) h = if x = 0 then ex 3 32 ls st h else ex 3 7 ls st h := x_if_eq hc_3 dX0_canHeadFor_4 rfl (by decide)
theorem x_3_7 {ls st : List Value} {h : Hp}  : ex 3 7 ls (st) h = gA (ldA ls 0) 3 8 ls st h := x_aload_n hc_3 dX0_canHeadFor_7 rfl rfl
theorem x_3_8 {ls st : List Value} {h : Hp} {k : Nat} : ex 3 8 ls (.ref k :: st) h = if kd k = 0 then ex 3 11 ls (vl h k 7 :: st) h else none := x_getf hc_3 dX0_canHeadFor_8 rfl fr_0_34
theorem x_3_11 {ls st : List Value} {h : Hp}  : ex 3 11 ls (st) h = gA (ldA ls 0) 3 12 ls st h := x_aload_n hc_3 dX0_canHeadFor_11 rfl rfl
theorem x_3_12 {ls st : List Value} {h : Hp} {k : Nat} : ex 3 12 ls (.ref k :: st) h = if kd k = 0 then ex 3 15 ls (vl h k 6 :: st) h else none := x_getf hc_3 dX0_canHeadFor_12 rfl fr_0_31
theorem x_3_15 {ls st : List Value} {h : Hp} {x z : Int32} : ex 3 15 ls (.int z :: .int x :: st) h = if z < x then ex 3 18 ls st h else ex 3 32 ls st h := x_icmp_le hc_3 dX0_canHeadFor_15 rfl (by decide)
theorem x_3_18 {ls st : List Value} {h : Hp}  : ex 3 18 ls (st) h = gI (ldI ls 1) 3 19 ls st h := x_iload_n hc_3 dX0_canHeadFor_18 rfl rfl
theorem x_3_19 {ls st : List Value} {h : Hp}  : ex 3 19 ls (st) h = gA (ldA ls 0) 3 20 ls st h := x_aload_n hc_3 dX0_canHeadFor_19 rfl rfl
theorem x_3_20 {ls st : List Value} {h : Hp} {k : Nat} : ex 3 20 ls (.ref k :: st) h = if kd k = 0 then ex 3 23 ls (vl h k 6 :: st) h else none := x_getf hc_3 dX0_canHeadFor_20 rfl fr_0_31
theorem x_3_23 {ls st : List Value} {h : Hp} {x z : Int32} : ex 3 23 ls (.int z :: .int x :: st) h = if z < x then ex 3 26 ls st h else ex 3 30 ls st h := x_icmp_le hc_3 dX0_canHeadFor_23 rfl (by decide)
theorem x_3_26 {ls st : List Value} {h : Hp}  : ex 3 26 ls (st) h = ex 3 27 ls (.int (1) :: st) h := x_iconst hc_3 dX0_canHeadFor_26 rfl (by decide)
theorem x_3_27 {ls st : List Value} {h : Hp}  : ex 3 27 ls (st) h = ex 3 31 ls st h := x_goto hc_3 dX0_canHeadFor_27 (by decide)
theorem x_3_30 {ls st : List Value} {h : Hp}  : ex 3 30 ls (st) h = ex 3 31 ls (.int (0) :: st) h := x_iconst hc_3 dX0_canHeadFor_30 rfl (by decide)
theorem x_3_31 {ls : List Value} {h : Hp} {v : Int32} : ex 3 31 ls [.int v] h = if v = 0 ∨ v = 1 then some (some (.int v), h) else none := x_zret hc_3 dX0_canHeadFor_31 rfl
theorem x_3_32 {ls st : List Value} {h : Hp}  : ex 3 32 ls (st) h = gA (ldA ls 0) 3 33 ls st h := x_aload_n hc_3 dX0_canHeadFor_32 rfl rfl
theorem x_3_33 {ls st : List Value} {h : Hp} {k : Nat}  : ex 3 33 ls (.ref k :: st) h = if kd k = 0 ∧ st.length ≤ 4 then gC (ex 2 0 [.ref k] [] h) 3 36 ls st else none := x_callV (as := []) hc_3 dX0_canHeadFor_33 rfl mr_0_63 rfl rfl rfl (by decide) (by decide)
theorem x_3_36 {ls st : List Value} {h : Hp} {x : Int32} : ex 3 36 ls (.int x :: st) h = if x = 0 then ex 3 53 ls st h else ex 3 39 ls st h := x_if_eq hc_3 dX0_canHeadFor_36 rfl (by decide)
theorem x_3_39 {ls st : List Value} {h : Hp}  : ex 3 39 ls (st) h = gI (ldI ls 1) 3 40 ls st h := x_iload_n hc_3 dX0_canHeadFor_39 rfl rfl
theorem x_3_40 {ls st : List Value} {h : Hp}  : ex 3 40 ls (st) h = gA (ldA ls 0) 3 41 ls st h := x_aload_n hc_3 dX0_canHeadFor_40 rfl rfl
theorem x_3_41 {ls st : List Value} {h : Hp} {k : Nat} : ex 3 41 ls (.ref k :: st) h = if kd k = 0 then ex 3 44 ls (vl h k 6 :: st) h else none := x_getf hc_3 dX0_canHeadFor_41 rfl fr_0_31
theorem x_3_44 {ls st : List Value} {h : Hp} {x z : Int32} : ex 3 44 ls (.int z :: .int x :: st) h = if x < z then ex 3 47 ls st h else ex 3 51 ls st h := x_icmp_ge hc_3 dX0_canHeadFor_44 rfl (by decide)
theorem x_3_47 {ls st : List Value} {h : Hp}  : ex 3 47 ls (st) h = ex 3 48 ls (.int (1) :: st) h := x_iconst hc_3 dX0_canHeadFor_47 rfl (by decide)
theorem x_3_48 {ls st : List Value} {h : Hp}  : ex 3 48 ls (st) h = ex 3 52 ls st h := x_goto hc_3 dX0_canHeadFor_48 (by decide)
theorem x_3_51 {ls st : List Value} {h : Hp}  : ex 3 51 ls (st) h = ex 3 52 ls (.int (0) :: st) h := x_iconst hc_3 dX0_canHeadFor_51 rfl (by decide)
theorem x_3_52 {ls : List Value} {h : Hp} {v : Int32} : ex 3 52 ls [.int v] h = if v = 0 ∨ v = 1 then some (some (.int v), h) else none := x_zret hc_3 dX0_canHeadFor_52 rfl
theorem x_3_53 {ls st : List Value} {h : Hp}  : ex 3 53 ls (st) h = gI (ldI ls 1) 3 54 ls st h := x_iload_n hc_3 dX0_canHeadFor_53 rfl rfl
theorem x_3_54 {ls st : List Value} {h : Hp}  : ex 3 54 ls (st) h = gA (ldA ls 0) 3 55 ls st h := x_aload_n hc_3 dX0_canHeadFor_54 rfl rfl
theorem x_3_55 {ls st : List Value} {h : Hp} {k : Nat} : ex 3 55 ls (.ref k :: st) h = if kd k = 0 then ex 3 58 ls (vl h k 6 :: st) h else none := x_getf hc_3 dX0_canHeadFor_55 rfl fr_0_31
theorem x_3_58 {ls st : List Value} {h : Hp} {x z : Int32} : ex 3 58 ls (.int z :: .int x :: st) h = if x = z then ex 3 65 ls st h else ex 3 61 ls st h := x_icmp_eq hc_3 dX0_canHeadFor_58 rfl (by decide)
theorem x_3_61 {ls st : List Value} {h : Hp}  : ex 3 61 ls (st) h = ex 3 62 ls (.int (1) :: st) h := x_iconst hc_3 dX0_canHeadFor_61 rfl (by decide)
theorem x_3_62 {ls st : List Value} {h : Hp}  : ex 3 62 ls (st) h = ex 3 66 ls st h := x_goto hc_3 dX0_canHeadFor_62 (by decide)
theorem x_3_65 {ls st : List Value} {h : Hp}  : ex 3 65 ls (st) h = ex 3 66 ls (.int (0) :: st) h := x_iconst hc_3 dX0_canHeadFor_65 rfl (by decide)
theorem x_3_66 {ls : List Value} {h : Hp} {v : Int32} : ex 3 66 ls [.int v] h = if v = 0 ∨ v = 1 then some (some (.int v), h) else none := x_zret hc_3 dX0_canHeadFor_66 rfl
theorem x_4_0 {ls st : List Value} {h : Hp}  : ex 4 0 ls (st) h = gA (ldA ls 0) 4 1 ls st h := x_aload_n hc_4 dX0_setOff_0 rfl rfl
theorem x_4_1 {ls st : List Value} {h : Hp}  : ex 4 1 ls (st) h = gI (ldI ls 1) 4 2 ls st h := x_iload_n hc_4 dX0_setOff_1 rfl rfl
theorem x_4_2 {ls st : List Value} {h : Hp} {k : Nat} {x : Int32} : ex 4 2 ls (.int x :: .ref k :: st) h = if kd k = 0 then ex 4 5 ls st (hu h k 7 x) else none := x_putf hc_4 dX0_setOff_2 rfl fr_0_34 (by decide)
theorem x_4_5 {ls st : List Value} {h : Hp}  : ex 4 5 ls (st) h = gA (ldA ls 0) 4 6 ls st h := x_aload_n hc_4 dX0_setOff_5 rfl rfl
theorem x_4_6 {ls st : List Value} {h : Hp}  : ex 4 6 ls (st) h = gI (ldI ls 2) 4 7 ls st h := x_iload_n hc_4 dX0_setOff_6 rfl rfl
theorem x_4_7 {ls st : List Value} {h : Hp} {k : Nat} {x : Int32} : ex 4 7 ls (.int x :: .ref k :: st) h = if kd k = 0 then ex 4 10 ls st (hu h k 9 x) else none := x_putf hc_4 dX0_setOff_7 rfl fr_0_40 (by decide)
theorem x_4_10 {ls st : List Value} {h : Hp}  : ex 4 10 ls (st) h = gA (ldA ls 0) 4 11 ls st h := x_aload_n hc_4 dX0_setOff_10 rfl rfl
theorem x_4_11 {ls st : List Value} {h : Hp}  : ex 4 11 ls (st) h = ex 4 12 ls (.int (0) :: st) h := x_iconst hc_4 dX0_setOff_11 rfl (by decide)
theorem x_4_12 {ls st : List Value} {h : Hp} {k : Nat} {x : Int32} : ex 4 12 ls (.int x :: .ref k :: st) h = if kd k = 0 ∧ (x = 0 ∨ x = 1) then ex 4 15 ls st (hu h k 12 x) else none := x_putz hc_4 dX0_setOff_12 rfl fr_0_50 (by decide)
theorem x_4_15 {ls st : List Value} {h : Hp}  : ex 4 15 ls (st) h = gA (ldA ls 0) 4 16 ls st h := x_aload_n hc_4 dX0_setOff_15 rfl rfl
theorem x_4_16 {ls st : List Value} {h : Hp}  : ex 4 16 ls (st) h = ex 4 17 ls (.int (1) :: st) h := x_iconst hc_4 dX0_setOff_16 rfl (by decide)
theorem x_4_17 {ls st : List Value} {h : Hp} {k : Nat} {x : Int32} : ex 4 17 ls (.int x :: .ref k :: st) h = if kd k = 0 ∧ (x = 0 ∨ x = 1) then ex 4 20 ls st (hu h k 13 x) else none := x_putz hc_4 dX0_setOff_17 rfl fr_0_53 (by decide)
theorem x_4_20 {ls st : List Value} {h : Hp}  : ex 4 20 ls (st) h = gA (ldA ls 0) 4 21 ls st h := x_aload_n hc_4 dX0_setOff_20 rfl rfl
theorem x_4_21 {ls st : List Value} {h : Hp} {k : Nat} : ex 4 21 ls (.ref k :: st) h = if kd k = 0 then ex 4 24 ls (vl h k 1 :: st) h else none := x_getf hc_4 dX0_setOff_21 rfl fr_0_17
theorem x_4_24 {ls st : List Value} {h : Hp}  : ex 4 24 ls (st) h = ex 4 25 ls (.int (0) :: st) h := x_iconst hc_4 dX0_setOff_24 rfl (by decide)
theorem x_4_25 {ls st : List Value} {h : Hp} {a0 : Nat} {a1 : Int32} : ex 4 25 ls (.int a1 :: .ref a0 :: st) h = if st.length ≤ 4 then gC (ex 150 0 [.ref a0, .int a1, .null, .null] [] h) 4 28 ls st else none := x_callS (as := [.ref a0, .int a1]) hc_4 dX0_setOff_25 rfl mr_0_67 rfl rfl rfl (by decide)
theorem x_4_28 {ls : List Value} {h : Hp} : ex 4 28 ls [] h = some (none, h) := x_vret hc_4 dX0_setOff_28 rfl
theorem x_5_0 {ls st : List Value} {h : Hp}  : ex 5 0 ls (st) h = gA (ldA ls 0) 5 1 ls st h := x_aload_n hc_5 dX0_nextStation_0 rfl rfl
theorem x_5_1 {ls st : List Value} {h : Hp} {k : Nat} : ex 5 1 ls (.ref k :: st) h = if kd k = 0 then ex 5 4 ls (vl h k 7 :: st) h else none := x_getf hc_5 dX0_nextStation_1 rfl fr_0_34
theorem x_5_4 {ls st : List Value} {h : Hp}  : ex 5 4 ls (st) h = gA (ldA ls 0) 5 5 ls st h := x_aload_n hc_5 dX0_nextStation_4 rfl rfl
theorem x_5_5 {ls st : List Value} {h : Hp} {k : Nat} : ex 5 5 ls (.ref k :: st) h = if kd k = 0 then ex 5 8 ls (vl h k 6 :: st) h else none := x_getf hc_5 dX0_nextStation_5 rfl fr_0_31
theorem x_5_8 {ls st : List Value} {h : Hp} {x z : Int32} : ex 5 8 ls (.int z :: .int x :: st) h = if z < x then ex 5 11 ls st h else ex 5 20 ls st h := x_icmp_le hc_5 dX0_nextStation_8 rfl (by decide)
theorem x_5_11 {ls st : List Value} {h : Hp}  : ex 5 11 ls (st) h = gA (ldA ls 0) 5 12 ls st h := x_aload_n hc_5 dX0_nextStation_11 rfl rfl
theorem x_5_12 {ls st : List Value} {h : Hp} {k : Nat} : ex 5 12 ls (.ref k :: st) h = if kd k = 0 then ex 5 15 ls (vl h k 6 :: st) h else none := x_getf hc_5 dX0_nextStation_12 rfl fr_0_31
theorem x_5_15 {ls st : List Value} {h : Hp}  : ex 5 15 ls (st) h = ex 5 16 ls (.int (1) :: st) h := x_iconst hc_5 dX0_nextStation_15 rfl (by decide)
theorem x_5_16 {ls st : List Value} {h : Hp} {a b : Int32} : ex 5 16 ls (.int b :: .int a :: st) h = ex 5 17 ls (.int (a + b) :: st) h := x_iadd hc_5 dX0_nextStation_16 rfl
theorem x_5_17 {ls st : List Value} {h : Hp}  : ex 5 17 ls (st) h = ex 5 26 ls st h := x_goto hc_5 dX0_nextStation_17 (by decide)
theorem x_5_20 {ls st : List Value} {h : Hp}  : ex 5 20 ls (st) h = gA (ldA ls 0) 5 21 ls st h := x_aload_n hc_5 dX0_nextStation_20 rfl rfl
theorem x_5_21 {ls st : List Value} {h : Hp} {k : Nat} : ex 5 21 ls (.ref k :: st) h = if kd k = 0 then ex 5 24 ls (vl h k 6 :: st) h else none := x_getf hc_5 dX0_nextStation_21 rfl fr_0_31
theorem x_5_24 {ls st : List Value} {h : Hp}  : ex 5 24 ls (st) h = ex 5 25 ls (.int (1) :: st) h := x_iconst hc_5 dX0_nextStation_24 rfl (by decide)
theorem x_5_25 {ls st : List Value} {h : Hp} {a b : Int32} : ex 5 25 ls (.int b :: .int a :: st) h = ex 5 26 ls (.int (a - b) :: st) h := x_isub hc_5 dX0_nextStation_25 rfl
theorem x_5_26 {ls : List Value} {h : Hp} {v : Int32} : ex 5 26 ls [.int v] h = some (some (.int v), h) := x_iret hc_5 dX0_nextStation_26 rfl
theorem x_6_0 {ls st : List Value} {h : Hp}  : ex 6 0 ls (st) h = gA (ldA ls 0) 6 1 ls st h := x_aload_n hc_6 dX0_greatestHeat_0 rfl rfl
theorem x_6_1 {ls st : List Value} {h : Hp} {k : Nat} : ex 6 1 ls (.ref k :: st) h = if kd k = 0 then ex 6 4 ls (vl h k 0 :: st) h else none := x_getf hc_6 dX0_greatestHeat_1 rfl fr_0_11
theorem x_6_4 {ls st : List Value} {h : Hp}  : ex 6 4 ls (st) h = ex 6 5 ls (.int (0) :: st) h := x_iconst hc_6 dX0_greatestHeat_4 rfl (by decide)
theorem x_6_5 {ls st : List Value} {h : Hp} {k : Nat} {x : Int32} : ex 6 5 ls (.int x :: .ref k :: st) h = if (11 ≤ kd k ∧ kd k ≤ 14) ∧ x.toNatClampNeg < ln k ∧ 0 ≤ x then gA (rf k x.toNatClampNeg) 6 6 ls st h else none := x_aald hc_6 dX0_greatestHeat_5 rfl
theorem x_6_6 {ls st : List Value} {h : Hp} {k : Nat} : ex 6 6 ls (.ref k :: st) h = if kd k = 6 then ex 6 9 ls (vl h k 0 :: st) h else none := x_getf hc_6 dX0_greatestHeat_6 rfl fr_0_60
theorem x_6_9 {ls st : List Value} {h : Hp} {x : Int32} : ex 6 9 ls (.int x :: st) h = ex 6 10 (ls.set 1 (.int x)) st h := x_istore_n hc_6 dX0_greatestHeat_9 rfl rfl (by decide)
theorem x_6_10 {ls st : List Value} {h : Hp}  : ex 6 10 ls (st) h = ex 6 11 ls (.int (1) :: st) h := x_iconst hc_6 dX0_greatestHeat_10 rfl (by decide)
theorem x_6_11 {ls st : List Value} {h : Hp} {x : Int32} : ex 6 11 ls (.int x :: st) h = ex 6 12 (ls.set 2 (.int x)) st h := x_istore_n hc_6 dX0_greatestHeat_11 rfl rfl (by decide)
theorem x_6_12 {ls st : List Value} {h : Hp}  : ex 6 12 ls (st) h = gI (ldI ls 2) 6 13 ls st h := x_iload_n hc_6 dX0_greatestHeat_12 rfl rfl
theorem x_6_13 {ls st : List Value} {h : Hp}  : ex 6 13 ls (st) h = ex 6 14 ls (.int (4) :: st) h := x_iconst hc_6 dX0_greatestHeat_13 rfl (by decide)
theorem x_6_14 {ls st : List Value} {h : Hp} {x z : Int32} : ex 6 14 ls (.int z :: .int x :: st) h = if x < z then ex 6 17 ls st h else ex 6 37 ls st h := x_icmp_ge hc_6 dX0_greatestHeat_14 rfl (by decide)
theorem x_6_17 {ls st : List Value} {h : Hp}  : ex 6 17 ls (st) h = gI (ldI ls 1) 6 18 ls st h := x_iload_n hc_6 dX0_greatestHeat_17 rfl rfl
theorem x_6_18 {ls st : List Value} {h : Hp}  : ex 6 18 ls (st) h = gA (ldA ls 0) 6 19 ls st h := x_aload_n hc_6 dX0_greatestHeat_18 rfl rfl
theorem x_6_19 {ls st : List Value} {h : Hp} {k : Nat} : ex 6 19 ls (.ref k :: st) h = if kd k = 0 then ex 6 22 ls (vl h k 0 :: st) h else none := x_getf hc_6 dX0_greatestHeat_19 rfl fr_0_11
theorem x_6_22 {ls st : List Value} {h : Hp}  : ex 6 22 ls (st) h = gI (ldI ls 2) 6 23 ls st h := x_iload_n hc_6 dX0_greatestHeat_22 rfl rfl
theorem x_6_23 {ls st : List Value} {h : Hp} {k : Nat} {x : Int32} : ex 6 23 ls (.int x :: .ref k :: st) h = if (11 ≤ kd k ∧ kd k ≤ 14) ∧ x.toNatClampNeg < ln k ∧ 0 ≤ x then gA (rf k x.toNatClampNeg) 6 24 ls st h else none := x_aald hc_6 dX0_greatestHeat_23 rfl
theorem x_6_24 {ls st : List Value} {h : Hp} {k : Nat} : ex 6 24 ls (.ref k :: st) h = if kd k = 6 then ex 6 27 ls (vl h k 0 :: st) h else none := x_getf hc_6 dX0_greatestHeat_24 rfl fr_0_60
theorem x_6_27 {ls st : List Value} {h : Hp} {a0 : Int32} {a1 : Int32} : ex 6 27 ls (.int a1 :: .int a0 :: st) h = if st.length ≤ 4 then gC (ex 149 0 [.int a0, .int a1] [] h) 6 30 ls st else none := x_callS (as := [.int a0, .int a1]) hc_6 dX0_greatestHeat_27 rfl mr_0_73 rfl rfl rfl (by decide)
theorem x_6_30 {ls st : List Value} {h : Hp} {x : Int32} : ex 6 30 ls (.int x :: st) h = ex 6 31 (ls.set 1 (.int x)) st h := x_istore_n hc_6 dX0_greatestHeat_30 rfl rfl (by decide)
theorem x_6_31 {ls st : List Value} {h : Hp}  : ex 6 31 ls (st) h = gN (ldI ls 2) 6 34 ls 2 (1) st h := x_iinc hc_6 dX0_greatestHeat_31 rfl (by decide) (by decide)
theorem x_6_34 {ls st : List Value} {h : Hp}  : ex 6 34 ls (st) h = ex 6 12 ls st h := x_goto hc_6 dX0_greatestHeat_34 (by decide)
theorem x_6_37 {ls st : List Value} {h : Hp}  : ex 6 37 ls (st) h = gI (ldI ls 1) 6 38 ls st h := x_iload_n hc_6 dX0_greatestHeat_37 rfl rfl
theorem x_6_38 {ls : List Value} {h : Hp} {v : Int32} : ex 6 38 ls [.int v] h = some (some (.int v), h) := x_iret hc_6 dX0_greatestHeat_38 rfl
theorem x_7_0 {ls st : List Value} {h : Hp}  : ex 7 0 ls (st) h = ex 7 1 ls (.int (0) :: st) h := x_iconst hc_7 dX0_useIce_0 rfl (by decide)
theorem x_7_1 {ls st : List Value} {h : Hp} {x : Int32} : ex 7 1 ls (.int x :: st) h = ex 7 2 (ls.set 1 (.int x)) st h := x_istore_n hc_7 dX0_useIce_1 rfl rfl (by decide)
theorem x_7_2 {ls st : List Value} {h : Hp}  : ex 7 2 ls (st) h = ex 7 3 ls (.int (0) :: st) h := x_iconst hc_7 dX0_useIce_2 rfl (by decide)
theorem x_7_3 {ls st : List Value} {h : Hp} {x : Int32} : ex 7 3 ls (.int x :: st) h = ex 7 4 (ls.set 2 (.int x)) st h := x_istore_n hc_7 dX0_useIce_3 rfl rfl (by decide)
theorem x_7_4 {ls st : List Value} {h : Hp}  : ex 7 4 ls (st) h = gI (ldI ls 2) 7 5 ls st h := x_iload_n hc_7 dX0_useIce_4 rfl rfl
theorem x_7_5 {ls st : List Value} {h : Hp}  : ex 7 5 ls (st) h = ex 7 6 ls (.int (4) :: st) h := x_iconst hc_7 dX0_useIce_5 rfl (by decide)
theorem x_7_6 {ls st : List Value} {h : Hp} {x z : Int32} : ex 7 6 ls (.int z :: .int x :: st) h = if x < z then ex 7 9 ls st h else ex 7 31 ls st h := x_icmp_ge hc_7 dX0_useIce_6 rfl (by decide)
theorem x_7_9 {ls st : List Value} {h : Hp}  : ex 7 9 ls (st) h = gI (ldI ls 1) 7 10 ls st h := x_iload_n hc_7 dX0_useIce_9 rfl rfl
theorem x_7_10 {ls st : List Value} {h : Hp}  : ex 7 10 ls (st) h = ex 7 11 ls (.int (0) :: st) h := x_iconst hc_7 dX0_useIce_10 rfl (by decide)
theorem x_7_11 {ls st : List Value} {h : Hp}  : ex 7 11 ls (st) h = gA (ldA ls 0) 7 12 ls st h := x_aload_n hc_7 dX0_useIce_11 rfl rfl
theorem x_7_12 {ls st : List Value} {h : Hp} {k : Nat} : ex 7 12 ls (.ref k :: st) h = if kd k = 0 then ex 7 15 ls (vl h k 0 :: st) h else none := x_getf hc_7 dX0_useIce_12 rfl fr_0_11
theorem x_7_15 {ls st : List Value} {h : Hp}  : ex 7 15 ls (st) h = gI (ldI ls 2) 7 16 ls st h := x_iload_n hc_7 dX0_useIce_15 rfl rfl
theorem x_7_16 {ls st : List Value} {h : Hp} {k : Nat} {x : Int32} : ex 7 16 ls (.int x :: .ref k :: st) h = if (11 ≤ kd k ∧ kd k ≤ 14) ∧ x.toNatClampNeg < ln k ∧ 0 ≤ x then gA (rf k x.toNatClampNeg) 7 17 ls st h else none := x_aald hc_7 dX0_useIce_16 rfl
theorem x_7_17 {ls st : List Value} {h : Hp} {k : Nat} : ex 7 17 ls (.ref k :: st) h = if kd k = 6 then ex 7 20 ls (vl h k 0 :: st) h else none := x_getf hc_7 dX0_useIce_17 rfl fr_0_60
theorem x_7_20 {ls st : List Value} {h : Hp} {a0 : Int32} {a1 : Int32} : ex 7 20 ls (.int a1 :: .int a0 :: st) h = if st.length ≤ 4 then gC (ex 149 0 [.int a0, .int a1] [] h) 7 23 ls st else none := x_callS (as := [.int a0, .int a1]) hc_7 dX0_useIce_20 rfl mr_0_73 rfl rfl rfl (by decide)
theorem x_7_23 {ls st : List Value} {h : Hp} {a b : Int32} : ex 7 23 ls (.int b :: .int a :: st) h = ex 7 24 ls (.int (a + b) :: st) h := x_iadd hc_7 dX0_useIce_23 rfl
theorem x_7_24 {ls st : List Value} {h : Hp} {x : Int32} : ex 7 24 ls (.int x :: st) h = ex 7 25 (ls.set 1 (.int x)) st h := x_istore_n hc_7 dX0_useIce_24 rfl rfl (by decide)
theorem x_7_25 {ls st : List Value} {h : Hp}  : ex 7 25 ls (st) h = gN (ldI ls 2) 7 28 ls 2 (1) st h := x_iinc hc_7 dX0_useIce_25 rfl (by decide) (by decide)
theorem x_7_28 {ls st : List Value} {h : Hp}  : ex 7 28 ls (st) h = ex 7 4 ls st h := x_goto hc_7 dX0_useIce_28 (by decide)
theorem x_7_31 {ls st : List Value} {h : Hp}  : ex 7 31 ls (st) h = gA (ldA ls 0) 7 32 ls st h := x_aload_n hc_7 dX0_useIce_31 rfl rfl
theorem x_7_32 {ls st : List Value} {h : Hp} {k : Nat} : ex 7 32 ls (.ref k :: st) h = if kd k = 0 then ex 7 35 ls (vl h k 4 :: st) h else none := x_getf hc_7 dX0_useIce_32 rfl fr_0_25
theorem x_7_35 {ls st : List Value} {h : Hp}  : ex 7 35 ls (st) h = gI (ldI ls 1) 7 36 ls st h := x_iload_n hc_7 dX0_useIce_35 rfl rfl
theorem x_7_36 {ls st : List Value} {h : Hp}  : ex 7 36 ls (st) h = ex 7 38 ls (.int (100) :: st) h := x_bipush hc_7 dX0_useIce_36 rfl (by decide)
theorem x_7_38 {ls st : List Value} {h : Hp} {a b : Int32} : ex 7 38 ls (.int b :: .int a :: st) h = if b = 0 then none else ex 7 39 ls (.int (a / b) :: st) h := x_idiv hc_7 dX0_useIce_38 rfl
theorem x_7_39 {ls st : List Value} {h : Hp} {a0 : Int32} {a1 : Int32} : ex 7 39 ls (.int a1 :: .int a0 :: st) h = if st.length ≤ 4 then gC (ex 148 0 [.int a0, .int a1] [] h) 7 42 ls st else none := x_callS (as := [.int a0, .int a1]) hc_7 dX0_useIce_39 rfl mr_0_79 rfl rfl rfl (by decide)
theorem x_7_42 {ls st : List Value} {h : Hp} {x : Int32} : ex 7 42 ls (.int x :: st) h = ex 7 43 (ls.set 2 (.int x)) st h := x_istore_n hc_7 dX0_useIce_42 rfl rfl (by decide)
theorem x_7_43 {ls st : List Value} {h : Hp}  : ex 7 43 ls (st) h = gA (ldA ls 0) 7 44 ls st h := x_aload_n hc_7 dX0_useIce_43 rfl rfl
theorem x_7_44i {ls st : List Value} {h : Hp} {u : Int32} : ex 7 44 ls (.int u :: st) h = ex 7 45 ls (.int u :: .int u :: st) h := x_dup_i hc_7 dX0_useIce_44 rfl
theorem x_7_44a {ls st : List Value} {h : Hp} {u : Nat} : ex 7 44 ls (.ref u :: st) h = ex 7 45 ls (.ref u :: .ref u :: st) h := x_dup_a hc_7 dX0_useIce_44 rfl
theorem x_7_45 {ls st : List Value} {h : Hp} {k : Nat} : ex 7 45 ls (.ref k :: st) h = if kd k = 0 then ex 7 48 ls (vl h k 4 :: st) h else none := x_getf hc_7 dX0_useIce_45 rfl fr_0_25
theorem x_7_48 {ls st : List Value} {h : Hp}  : ex 7 48 ls (st) h = gI (ldI ls 2) 7 49 ls st h := x_iload_n hc_7 dX0_useIce_48 rfl rfl
theorem x_7_49 {ls st : List Value} {h : Hp} {a b : Int32} : ex 7 49 ls (.int b :: .int a :: st) h = ex 7 50 ls (.int (a - b) :: st) h := x_isub hc_7 dX0_useIce_49 rfl
theorem x_7_50 {ls st : List Value} {h : Hp} {k : Nat} {x : Int32} : ex 7 50 ls (.int x :: .ref k :: st) h = if kd k = 0 then ex 7 53 ls st (hu h k 4 x) else none := x_putf hc_7 dX0_useIce_50 rfl fr_0_25 (by decide)
theorem x_7_53 {ls st : List Value} {h : Hp}  : ex 7 53 ls (st) h = gI (ldI ls 2) 7 54 ls st h := x_iload_n hc_7 dX0_useIce_53 rfl rfl
theorem x_7_54 {ls : List Value} {h : Hp} {v : Int32} : ex 7 54 ls [.int v] h = some (some (.int v), h) := x_iret hc_7 dX0_useIce_54 rfl
theorem x_8_0 {ls st : List Value} {h : Hp}  : ex 8 0 ls (st) h = gA (ldA ls 0) 8 1 ls st h := x_aload_n hc_8 dX0_warmTiers_0 rfl rfl
theorem x_8_1 {ls st : List Value} {h : Hp} {k : Nat} : ex 8 1 ls (.ref k :: st) h = if kd k = 0 then ex 8 4 ls (vl h k 3 :: st) h else none := x_getf hc_8 dX0_warmTiers_1 rfl fr_0_21
theorem x_8_4 {ls st : List Value} {h : Hp}  : ex 8 4 ls (st) h = gA (ldA ls 0) 8 5 ls st h := x_aload_n hc_8 dX0_warmTiers_4 rfl rfl
theorem x_8_5 {ls st : List Value} {h : Hp} {k : Nat} : ex 8 5 ls (.ref k :: st) h = if kd k = 0 then ex 8 8 ls (vl h k 5 :: st) h else none := x_getf hc_8 dX0_warmTiers_5 rfl fr_0_28
theorem x_8_8 {ls st : List Value} {h : Hp} {x : Int32} : ex 8 8 ls (.int x :: st) h = if x = 0 then ex 8 11 ls st h else ex 8 15 ls st h := x_if_ne hc_8 dX0_warmTiers_8 rfl (by decide)
theorem x_8_11 {ls st : List Value} {h : Hp}  : ex 8 11 ls (st) h = ex 8 12 ls (.int (0) :: st) h := x_iconst hc_8 dX0_warmTiers_11 rfl (by decide)
theorem x_8_12 {ls st : List Value} {h : Hp}  : ex 8 12 ls (st) h = ex 8 17 ls st h := x_goto hc_8 dX0_warmTiers_12 (by decide)
theorem x_8_15 {ls st : List Value} {h : Hp}  : ex 8 15 ls (st) h = ex 8 17 ls (.int (15) :: st) h := x_bipush hc_8 dX0_warmTiers_15 rfl (by decide)
theorem x_8_17 {ls st : List Value} {h : Hp} {a b : Int32} : ex 8 17 ls (.int b :: .int a :: st) h = ex 8 18 ls (.int (a + b) :: st) h := x_iadd hc_8 dX0_warmTiers_17 rfl
theorem x_8_18 {ls st : List Value} {h : Hp} {x : Int32} : ex 8 18 ls (.int x :: st) h = ex 8 20 (ls.set 4 (.int x)) st h := x_istore hc_8 dX0_warmTiers_18 rfl (by decide)
theorem x_8_20 {ls st : List Value} {h : Hp}  : ex 8 20 ls (st) h = ex 8 21 ls (.int (0) :: st) h := x_iconst hc_8 dX0_warmTiers_20 rfl (by decide)
theorem x_8_21 {ls st : List Value} {h : Hp} {x : Int32} : ex 8 21 ls (.int x :: st) h = ex 8 23 (ls.set 5 (.int x)) st h := x_istore hc_8 dX0_warmTiers_21 rfl (by decide)
theorem x_8_23 {ls st : List Value} {h : Hp}  : ex 8 23 ls (st) h = ex 8 24 ls (.int (0) :: st) h := x_iconst hc_8 dX0_warmTiers_23 rfl (by decide)
theorem x_8_24 {ls st : List Value} {h : Hp} {x : Int32} : ex 8 24 ls (.int x :: st) h = ex 8 26 (ls.set 6 (.int x)) st h := x_istore hc_8 dX0_warmTiers_24 rfl (by decide)
theorem x_8_26 {ls st : List Value} {h : Hp}  : ex 8 26 ls (st) h = gI (ldI ls 6) 8 28 ls st h := x_iload hc_8 dX0_warmTiers_26 rfl
theorem x_8_28 {ls st : List Value} {h : Hp}  : ex 8 28 ls (st) h = ex 8 29 ls (.int (4) :: st) h := x_iconst hc_8 dX0_warmTiers_28 rfl (by decide)
theorem x_8_29 {ls st : List Value} {h : Hp} {x z : Int32} : ex 8 29 ls (.int z :: .int x :: st) h = if x < z then ex 8 32 ls st h else ex 8 99 ls st h := x_icmp_ge hc_8 dX0_warmTiers_29 rfl (by decide)
theorem x_8_32 {ls st : List Value} {h : Hp}  : ex 8 32 ls (st) h = gA (ldA ls 0) 8 33 ls st h := x_aload_n hc_8 dX0_warmTiers_32 rfl rfl
theorem x_8_33 {ls st : List Value} {h : Hp} {k : Nat} : ex 8 33 ls (.ref k :: st) h = if kd k = 0 then ex 8 36 ls (vl h k 0 :: st) h else none := x_getf hc_8 dX0_warmTiers_33 rfl fr_0_11
theorem x_8_36 {ls st : List Value} {h : Hp}  : ex 8 36 ls (st) h = gI (ldI ls 6) 8 38 ls st h := x_iload hc_8 dX0_warmTiers_36 rfl
theorem x_8_38 {ls st : List Value} {h : Hp} {k : Nat} {x : Int32} : ex 8 38 ls (.int x :: .ref k :: st) h = if (11 ≤ kd k ∧ kd k ≤ 14) ∧ x.toNatClampNeg < ln k ∧ 0 ≤ x then gA (rf k x.toNatClampNeg) 8 39 ls st h else none := x_aald hc_8 dX0_warmTiers_38 rfl
theorem x_8_39 {ls st : List Value} {h : Hp} {x : Nat} : ex 8 39 ls (.ref x :: st) h = ex 8 41 (ls.set 7 (.ref x)) st h := x_astore hc_8 dX0_warmTiers_39 rfl (by decide)
theorem x_8_41 {ls st : List Value} {h : Hp}  : ex 8 41 ls (st) h = gA (ldA ls 7) 8 43 ls st h := x_aload hc_8 dX0_warmTiers_41 rfl
theorem x_8_43i {ls st : List Value} {h : Hp} {u : Int32} : ex 8 43 ls (.int u :: st) h = ex 8 44 ls (.int u :: .int u :: st) h := x_dup_i hc_8 dX0_warmTiers_43 rfl
theorem x_8_43a {ls st : List Value} {h : Hp} {u : Nat} : ex 8 43 ls (.ref u :: st) h = ex 8 44 ls (.ref u :: .ref u :: st) h := x_dup_a hc_8 dX0_warmTiers_43 rfl
theorem x_8_44 {ls st : List Value} {h : Hp} {k : Nat} : ex 8 44 ls (.ref k :: st) h = if kd k = 6 then ex 8 47 ls (vl h k 0 :: st) h else none := x_getf hc_8 dX0_warmTiers_44 rfl fr_0_60
theorem x_8_47 {ls st : List Value} {h : Hp}  : ex 8 47 ls (st) h = gI (ldI ls 1) 8 48 ls st h := x_iload_n hc_8 dX0_warmTiers_47 rfl rfl
theorem x_8_48 {ls st : List Value} {h : Hp}  : ex 8 48 ls (st) h = gA (ldA ls 7) 8 50 ls st h := x_aload hc_8 dX0_warmTiers_48 rfl
theorem x_8_50 {ls st : List Value} {h : Hp} {k : Nat} : ex 8 50 ls (.ref k :: st) h = if kd k = 6 then ex 8 53 ls (vl h k 0 :: st) h else none := x_getf hc_8 dX0_warmTiers_50 rfl fr_0_60
theorem x_8_53 {ls st : List Value} {h : Hp} {a b : Int32} : ex 8 53 ls (.int b :: .int a :: st) h = ex 8 54 ls (.int (a - b) :: st) h := x_isub hc_8 dX0_warmTiers_53 rfl
theorem x_8_54 {ls st : List Value} {h : Hp}  : ex 8 54 ls (st) h = gI (ldI ls 4) 8 56 ls st h := x_iload hc_8 dX0_warmTiers_54 rfl
theorem x_8_56 {ls st : List Value} {h : Hp} {a b : Int32} : ex 8 56 ls (.int b :: .int a :: st) h = ex 8 57 ls (.int (a * b) :: st) h := x_imul hc_8 dX0_warmTiers_56 rfl
theorem x_8_57 {ls st : List Value} {h : Hp}  : ex 8 57 ls (st) h = ex 8 59 ls (.int (100) :: st) h := x_bipush hc_8 dX0_warmTiers_57 rfl (by decide)
theorem x_8_59 {ls st : List Value} {h : Hp} {a b : Int32} : ex 8 59 ls (.int b :: .int a :: st) h = if b = 0 then none else ex 8 60 ls (.int (a / b) :: st) h := x_idiv hc_8 dX0_warmTiers_59 rfl
theorem x_8_60 {ls st : List Value} {h : Hp} {a b : Int32} : ex 8 60 ls (.int b :: .int a :: st) h = ex 8 61 ls (.int (a + b) :: st) h := x_iadd hc_8 dX0_warmTiers_60 rfl
theorem x_8_61 {ls st : List Value} {h : Hp} {k : Nat} {x : Int32} : ex 8 61 ls (.int x :: .ref k :: st) h = if kd k = 6 then ex 8 64 ls st (hu h k 0 x) else none := x_putf hc_8 dX0_warmTiers_61 rfl fr_0_60 (by decide)
theorem x_8_64 {ls st : List Value} {h : Hp}  : ex 8 64 ls (st) h = gA (ldA ls 7) 8 66 ls st h := x_aload hc_8 dX0_warmTiers_64 rfl
theorem x_8_66i {ls st : List Value} {h : Hp} {u : Int32} : ex 8 66 ls (.int u :: st) h = ex 8 67 ls (.int u :: .int u :: st) h := x_dup_i hc_8 dX0_warmTiers_66 rfl
theorem x_8_66a {ls st : List Value} {h : Hp} {u : Nat} : ex 8 66 ls (.ref u :: st) h = ex 8 67 ls (.ref u :: .ref u :: st) h := x_dup_a hc_8 dX0_warmTiers_66 rfl
theorem x_8_67 {ls st : List Value} {h : Hp} {k : Nat} : ex 8 67 ls (.ref k :: st) h = if kd k = 6 then ex 8 70 ls (vl h k 0 :: st) h else none := x_getf hc_8 dX0_warmTiers_67 rfl fr_0_60
theorem x_8_70 {ls st : List Value} {h : Hp}  : ex 8 70 ls (st) h = gI (ldI ls 2) 8 71 ls st h := x_iload_n hc_8 dX0_warmTiers_70 rfl rfl
theorem x_8_71 {ls st : List Value} {h : Hp}  : ex 8 71 ls (st) h = ex 8 72 ls (.int (4) :: st) h := x_iconst hc_8 dX0_warmTiers_71 rfl (by decide)
theorem x_8_72 {ls st : List Value} {h : Hp}  : ex 8 72 ls (st) h = gI (ldI ls 6) 8 74 ls st h := x_iload hc_8 dX0_warmTiers_72 rfl
theorem x_8_74 {ls st : List Value} {h : Hp} {a b : Int32} : ex 8 74 ls (.int b :: .int a :: st) h = ex 8 75 ls (.int (a - b) :: st) h := x_isub hc_8 dX0_warmTiers_74 rfl
theorem x_8_75 {ls st : List Value} {h : Hp} {a b : Int32} : ex 8 75 ls (.int b :: .int a :: st) h = ex 8 76 ls (.int (a * b) :: st) h := x_imul hc_8 dX0_warmTiers_75 rfl
theorem x_8_76 {ls st : List Value} {h : Hp}  : ex 8 76 ls (st) h = ex 8 77 ls (.int (2) :: st) h := x_iconst hc_8 dX0_warmTiers_76 rfl (by decide)
theorem x_8_77 {ls st : List Value} {h : Hp} {a b : Int32} : ex 8 77 ls (.int b :: .int a :: st) h = if b = 0 then none else ex 8 78 ls (.int (a / b) :: st) h := x_idiv hc_8 dX0_warmTiers_77 rfl
theorem x_8_78 {ls st : List Value} {h : Hp} {a b : Int32} : ex 8 78 ls (.int b :: .int a :: st) h = ex 8 79 ls (.int (a - b) :: st) h := x_isub hc_8 dX0_warmTiers_78 rfl
theorem x_8_79 {ls st : List Value} {h : Hp} {k : Nat} {x : Int32} : ex 8 79 ls (.int x :: .ref k :: st) h = if kd k = 6 then ex 8 82 ls st (hu h k 0 x) else none := x_putf hc_8 dX0_warmTiers_79 rfl fr_0_60 (by decide)
theorem x_8_82 {ls st : List Value} {h : Hp}  : ex 8 82 ls (st) h = gI (ldI ls 5) 8 84 ls st h := x_iload hc_8 dX0_warmTiers_82 rfl
theorem x_8_84 {ls st : List Value} {h : Hp}  : ex 8 84 ls (st) h = gA (ldA ls 7) 8 86 ls st h := x_aload hc_8 dX0_warmTiers_84 rfl
theorem x_8_86 {ls st : List Value} {h : Hp}  : ex 8 86 ls (st) h = gA (ldA ls 3) 8 87 ls st h := x_aload_n hc_8 dX0_warmTiers_86 rfl rfl
theorem x_8_87 {ls st : List Value} {h : Hp} {k : Nat} {a0 : Nat} : ex 8 87 ls (.ref a0 :: .ref k :: st) h = if kd k = 6 ∧ st.length ≤ 4 then gC (ex 37 0 [.ref k, .ref a0, .null] [] h) 8 90 ls st else none := x_callV (as := [.ref a0]) hc_8 dX0_warmTiers_87 rfl mr_0_82 rfl rfl rfl (by decide) (by decide)
theorem x_8_90 {ls st : List Value} {h : Hp} {a b : Int32} : ex 8 90 ls (.int b :: .int a :: st) h = ex 8 91 ls (.int (a + b) :: st) h := x_iadd hc_8 dX0_warmTiers_90 rfl
theorem x_8_91 {ls st : List Value} {h : Hp} {x : Int32} : ex 8 91 ls (.int x :: st) h = ex 8 93 (ls.set 5 (.int x)) st h := x_istore hc_8 dX0_warmTiers_91 rfl (by decide)
theorem x_8_93 {ls st : List Value} {h : Hp}  : ex 8 93 ls (st) h = gN (ldI ls 6) 8 96 ls 6 (1) st h := x_iinc hc_8 dX0_warmTiers_93 rfl (by decide) (by decide)
theorem x_8_96 {ls st : List Value} {h : Hp}  : ex 8 96 ls (st) h = ex 8 26 ls st h := x_goto hc_8 dX0_warmTiers_96 (by decide)
theorem x_8_99 {ls st : List Value} {h : Hp}  : ex 8 99 ls (st) h = gI (ldI ls 5) 8 101 ls st h := x_iload hc_8 dX0_warmTiers_99 rfl
theorem x_8_101 {ls : List Value} {h : Hp} {v : Int32} : ex 8 101 ls [.int v] h = some (some (.int v), h) := x_iret hc_8 dX0_warmTiers_101 rfl
theorem x_9_0 {ls st : List Value} {h : Hp}  : ex 9 0 ls (st) h = gA (ldA ls 0) 9 1 ls st h := x_aload_n hc_9 dX0_addClaim_0 rfl rfl
theorem x_9_1 {ls st : List Value} {h : Hp} {k : Nat} : ex 9 1 ls (.ref k :: st) h = if kd k = 0 then ex 9 4 ls (vl h k 13 :: st) h else none := x_getf hc_9 dX0_addClaim_1 rfl fr_0_53
theorem x_9_4 {ls st : List Value} {h : Hp} {x : Int32} : ex 9 4 ls (.int x :: st) h = if x = 0 then ex 9 7 ls st h else ex 9 8 ls st h := x_if_ne hc_9 dX0_addClaim_4 rfl (by decide)
theorem x_9_7 {ls : List Value} {h : Hp} : ex 9 7 ls [] h = some (none, h) := x_vret hc_9 dX0_addClaim_7 rfl
theorem x_9_8 {ls st : List Value} {h : Hp}  : ex 9 8 ls (st) h = ex 9 9 ls (.int (2) :: st) h := x_iconst hc_9 dX0_addClaim_8 rfl (by decide)
theorem x_9_9 {ls st : List Value} {h : Hp} {x : Int32} : ex 9 9 ls (.int x :: st) h = ex 9 10 (ls.set 2 (.int x)) st h := x_istore_n hc_9 dX0_addClaim_9 rfl rfl (by decide)
theorem x_9_10 {ls st : List Value} {h : Hp}  : ex 9 10 ls (st) h = gA (ldA ls 0) 9 11 ls st h := x_aload_n hc_9 dX0_addClaim_10 rfl rfl
theorem x_9_11 {ls st : List Value} {h : Hp} {k : Nat} : ex 9 11 ls (.ref k :: st) h = if kd k = 0 then ex 9 14 ls (vl h k 11 :: st) h else none := x_getf hc_9 dX0_addClaim_11 rfl fr_0_46
theorem x_9_14 {ls st : List Value} {h : Hp} {x : Int32} : ex 9 14 ls (.int x :: st) h = if x = 0 then ex 9 22 ls st h else ex 9 17 ls st h := x_if_eq hc_9 dX0_addClaim_14 rfl (by decide)
theorem x_9_17 {ls st : List Value} {h : Hp}  : ex 9 17 ls (st) h = ex 9 18 ls (.int (0) :: st) h := x_iconst hc_9 dX0_addClaim_17 rfl (by decide)
theorem x_9_18 {ls st : List Value} {h : Hp} {x : Int32} : ex 9 18 ls (.int x :: st) h = ex 9 19 (ls.set 2 (.int x)) st h := x_istore_n hc_9 dX0_addClaim_18 rfl rfl (by decide)
theorem x_9_19 {ls st : List Value} {h : Hp}  : ex 9 19 ls (st) h = ex 9 31 ls st h := x_goto hc_9 dX0_addClaim_19 (by decide)
theorem x_9_22 {ls st : List Value} {h : Hp}  : ex 9 22 ls (st) h = gA (ldA ls 0) 9 23 ls st h := x_aload_n hc_9 dX0_addClaim_22 rfl rfl
theorem x_9_23 {ls st : List Value} {h : Hp} {k : Nat} : ex 9 23 ls (.ref k :: st) h = if kd k = 0 then ex 9 26 ls (vl h k 9 :: st) h else none := x_getf hc_9 dX0_addClaim_23 rfl fr_0_40
theorem x_9_26 {ls st : List Value} {h : Hp} {x : Int32} : ex 9 26 ls (.int x :: st) h = if 0 < x then ex 9 29 ls st h else ex 9 31 ls st h := x_if_le hc_9 dX0_addClaim_26 rfl (by decide)
theorem x_9_29 {ls st : List Value} {h : Hp}  : ex 9 29 ls (st) h = ex 9 30 ls (.int (1) :: st) h := x_iconst hc_9 dX0_addClaim_29 rfl (by decide)
theorem x_9_30 {ls st : List Value} {h : Hp} {x : Int32} : ex 9 30 ls (.int x :: st) h = ex 9 31 (ls.set 2 (.int x)) st h := x_istore_n hc_9 dX0_addClaim_30 rfl rfl (by decide)
theorem x_9_31 {ls st : List Value} {h : Hp}  : ex 9 31 ls (st) h = gA (ldA ls 0) 9 32 ls st h := x_aload_n hc_9 dX0_addClaim_31 rfl rfl
theorem x_9_32 {ls st : List Value} {h : Hp} {k : Nat} : ex 9 32 ls (.ref k :: st) h = if kd k = 0 then ex 9 35 ls (vl h k 1 :: st) h else none := x_getf hc_9 dX0_addClaim_32 rfl fr_0_17
theorem x_9_35 {ls st : List Value} {h : Hp}  : ex 9 35 ls (st) h = gI (ldI ls 2) 9 36 ls st h := x_iload_n hc_9 dX0_addClaim_35 rfl rfl
theorem x_9_36ii {ls st : List Value} {h : Hp} {u : Int32} {v : Int32} : ex 9 36 ls (.int u :: .int v :: st) h = ex 9 37 ls (.int u :: .int v :: .int u :: .int v :: st) h := x_dup2_ii hc_9 dX0_addClaim_36 rfl
theorem x_9_36ia {ls st : List Value} {h : Hp} {u : Int32} {v : Nat} : ex 9 36 ls (.int u :: .ref v :: st) h = ex 9 37 ls (.int u :: .ref v :: .int u :: .ref v :: st) h := x_dup2_ia hc_9 dX0_addClaim_36 rfl
theorem x_9_36ai {ls st : List Value} {h : Hp} {u : Nat} {v : Int32} : ex 9 36 ls (.ref u :: .int v :: st) h = ex 9 37 ls (.ref u :: .int v :: .ref u :: .int v :: st) h := x_dup2_ai hc_9 dX0_addClaim_36 rfl
theorem x_9_36aa {ls st : List Value} {h : Hp} {u : Nat} {v : Nat} : ex 9 36 ls (.ref u :: .ref v :: st) h = ex 9 37 ls (.ref u :: .ref v :: .ref u :: .ref v :: st) h := x_dup2_aa hc_9 dX0_addClaim_36 rfl
theorem x_9_37 {ls st : List Value} {h : Hp} {k : Nat} {x : Int32} : ex 9 37 ls (.int x :: .ref k :: st) h = if kd k = 9 ∧ x.toNatClampNeg < ln k ∧ 0 ≤ x then ex 9 38 ls (.int (h k x.toNatClampNeg) :: st) h else none := x_iald hc_9 dX0_addClaim_37 rfl
theorem x_9_38 {ls st : List Value} {h : Hp}  : ex 9 38 ls (st) h = gI (ldI ls 1) 9 39 ls st h := x_iload_n hc_9 dX0_addClaim_38 rfl rfl
theorem x_9_39 {ls st : List Value} {h : Hp}  : ex 9 39 ls (st) h = ex 9 42 ls (.int (1000) :: st) h := x_sipush hc_9 dX0_addClaim_39 rfl (by decide)
theorem x_9_42 {ls st : List Value} {h : Hp} {a b : Int32} : ex 9 42 ls (.int b :: .int a :: st) h = if b = 0 then none else ex 9 43 ls (.int (a / b) :: st) h := x_idiv hc_9 dX0_addClaim_42 rfl
theorem x_9_43 {ls st : List Value} {h : Hp} {a b : Int32} : ex 9 43 ls (.int b :: .int a :: st) h = ex 9 44 ls (.int (a + b) :: st) h := x_iadd hc_9 dX0_addClaim_43 rfl
theorem x_9_44 {ls st : List Value} {h : Hp} {k : Nat} {x u : Int32} : ex 9 44 ls (.int u :: .int x :: .ref k :: st) h = if kd k = 9 ∧ x.toNatClampNeg < ln k ∧ 0 ≤ x then ex 9 45 ls st (hu h k x.toNatClampNeg u) else none := x_iast hc_9 dX0_addClaim_44 rfl
theorem x_9_45 {ls : List Value} {h : Hp} : ex 9 45 ls [] h = some (none, h) := x_vret hc_9 dX0_addClaim_45 rfl
theorem x_10_0 {ls st : List Value} {h : Hp}  : ex 10 0 ls (st) h = ex 10 1 ls (.int (0) :: st) h := x_iconst hc_10 dX0_priceOfLoads_0 rfl (by decide)
theorem x_10_1 {ls st : List Value} {h : Hp} {x : Int32} : ex 10 1 ls (.int x :: st) h = ex 10 2 (ls.set 2 (.int x)) st h := x_istore_n hc_10 dX0_priceOfLoads_1 rfl rfl (by decide)
theorem x_10_2 {ls st : List Value} {h : Hp}  : ex 10 2 ls (st) h = ex 10 3 ls (.int (0) :: st) h := x_iconst hc_10 dX0_priceOfLoads_2 rfl (by decide)
theorem x_10_3 {ls st : List Value} {h : Hp} {x : Int32} : ex 10 3 ls (.int x :: st) h = ex 10 4 (ls.set 3 (.int x)) st h := x_istore_n hc_10 dX0_priceOfLoads_3 rfl rfl (by decide)
theorem x_10_4 {ls st : List Value} {h : Hp}  : ex 10 4 ls (st) h = gI (ldI ls 3) 10 5 ls st h := x_iload_n hc_10 dX0_priceOfLoads_4 rfl rfl
theorem x_10_5 {ls st : List Value} {h : Hp}  : ex 10 5 ls (st) h = ex 10 6 ls (.int (4) :: st) h := x_iconst hc_10 dX0_priceOfLoads_5 rfl (by decide)
theorem x_10_6 {ls st : List Value} {h : Hp} {x z : Int32} : ex 10 6 ls (.int z :: .int x :: st) h = if x < z then ex 10 9 ls st h else ex 10 43 ls st h := x_icmp_ge hc_10 dX0_priceOfLoads_6 rfl (by decide)
theorem x_10_9 {ls st : List Value} {h : Hp}  : ex 10 9 ls (st) h = gI (ldI ls 2) 10 10 ls st h := x_iload_n hc_10 dX0_priceOfLoads_9 rfl rfl
theorem x_10_10 {ls st : List Value} {h : Hp}  : ex 10 10 ls (st) h = gA (ldA ls 0) 10 11 ls st h := x_aload_n hc_10 dX0_priceOfLoads_10 rfl rfl
theorem x_10_11 {ls st : List Value} {h : Hp} {k : Nat} : ex 10 11 ls (.ref k :: st) h = if kd k = 0 then ex 10 14 ls (vl h k 0 :: st) h else none := x_getf hc_10 dX0_priceOfLoads_11 rfl fr_0_11
theorem x_10_14 {ls st : List Value} {h : Hp}  : ex 10 14 ls (st) h = gI (ldI ls 3) 10 15 ls st h := x_iload_n hc_10 dX0_priceOfLoads_14 rfl rfl
theorem x_10_15 {ls st : List Value} {h : Hp} {k : Nat} {x : Int32} : ex 10 15 ls (.int x :: .ref k :: st) h = if (11 ≤ kd k ∧ kd k ≤ 14) ∧ x.toNatClampNeg < ln k ∧ 0 ≤ x then gA (rf k x.toNatClampNeg) 10 16 ls st h else none := x_aald hc_10 dX0_priceOfLoads_15 rfl
theorem x_10_16 {ls st : List Value} {h : Hp} {k : Nat} : ex 10 16 ls (.ref k :: st) h = if kd k = 6 then ex 10 19 ls (vl h k 2 :: st) h else none := x_getf hc_10 dX0_priceOfLoads_16 rfl fr_0_86
theorem x_10_19 {ls st : List Value} {h : Hp}  : ex 10 19 ls (st) h = gA (ldA ls 0) 10 20 ls st h := x_aload_n hc_10 dX0_priceOfLoads_19 rfl rfl
theorem x_10_20 {ls st : List Value} {h : Hp} {k : Nat} : ex 10 20 ls (.ref k :: st) h = if kd k = 0 then ex 10 23 ls (vl h k 0 :: st) h else none := x_getf hc_10 dX0_priceOfLoads_20 rfl fr_0_11
theorem x_10_23 {ls st : List Value} {h : Hp}  : ex 10 23 ls (st) h = gI (ldI ls 3) 10 24 ls st h := x_iload_n hc_10 dX0_priceOfLoads_23 rfl rfl
theorem x_10_24 {ls st : List Value} {h : Hp} {k : Nat} {x : Int32} : ex 10 24 ls (.int x :: .ref k :: st) h = if (11 ≤ kd k ∧ kd k ≤ 14) ∧ x.toNatClampNeg < ln k ∧ 0 ≤ x then gA (rf k x.toNatClampNeg) 10 25 ls st h else none := x_aald hc_10 dX0_priceOfLoads_24 rfl
theorem x_10_25 {ls st : List Value} {h : Hp} {k : Nat} : ex 10 25 ls (.ref k :: st) h = if kd k = 6 then ex 10 28 ls (vl h k 3 :: st) h else none := x_getf hc_10 dX0_priceOfLoads_25 rfl fr_0_89
theorem x_10_28 {ls st : List Value} {h : Hp} {a b : Int32} : ex 10 28 ls (.int b :: .int a :: st) h = ex 10 29 ls (.int (a * b) :: st) h := x_imul hc_10 dX0_priceOfLoads_28 rfl
theorem x_10_29 {ls st : List Value} {h : Hp}  : ex 10 29 ls (st) h = gI (ldI ls 1) 10 30 ls st h := x_iload_n hc_10 dX0_priceOfLoads_29 rfl rfl
theorem x_10_30 {ls st : List Value} {h : Hp} {a b : Int32} : ex 10 30 ls (.int b :: .int a :: st) h = ex 10 31 ls (.int (a * b) :: st) h := x_imul hc_10 dX0_priceOfLoads_30 rfl
theorem x_10_31 {ls st : List Value} {h : Hp}  : ex 10 31 ls (st) h = ex 10 34 ls (.int (1000) :: st) h := x_sipush hc_10 dX0_priceOfLoads_31 rfl (by decide)
theorem x_10_34 {ls st : List Value} {h : Hp} {a b : Int32} : ex 10 34 ls (.int b :: .int a :: st) h = if b = 0 then none else ex 10 35 ls (.int (a / b) :: st) h := x_idiv hc_10 dX0_priceOfLoads_34 rfl
theorem x_10_35 {ls st : List Value} {h : Hp} {a b : Int32} : ex 10 35 ls (.int b :: .int a :: st) h = ex 10 36 ls (.int (a + b) :: st) h := x_iadd hc_10 dX0_priceOfLoads_35 rfl
theorem x_10_36 {ls st : List Value} {h : Hp} {x : Int32} : ex 10 36 ls (.int x :: st) h = ex 10 37 (ls.set 2 (.int x)) st h := x_istore_n hc_10 dX0_priceOfLoads_36 rfl rfl (by decide)
theorem x_10_37 {ls st : List Value} {h : Hp}  : ex 10 37 ls (st) h = gN (ldI ls 3) 10 40 ls 3 (1) st h := x_iinc hc_10 dX0_priceOfLoads_37 rfl (by decide) (by decide)
theorem x_10_40 {ls st : List Value} {h : Hp}  : ex 10 40 ls (st) h = ex 10 4 ls st h := x_goto hc_10 dX0_priceOfLoads_40 (by decide)
theorem x_10_43 {ls st : List Value} {h : Hp}  : ex 10 43 ls (st) h = gI (ldI ls 2) 10 44 ls st h := x_iload_n hc_10 dX0_priceOfLoads_43 rfl rfl
theorem x_10_44 {ls : List Value} {h : Hp} {v : Int32} : ex 10 44 ls [.int v] h = some (some (.int v), h) := x_iret hc_10 dX0_priceOfLoads_44 rfl
theorem x_11_0 {ls st : List Value} {h : Hp}  : ex 11 0 ls (st) h = ex 11 1 ls (.int (0) :: st) h := x_iconst hc_11 dX0_unload_0 rfl (by decide)
theorem x_11_1 {ls st : List Value} {h : Hp} {x : Int32} : ex 11 1 ls (.int x :: st) h = ex 11 2 (ls.set 1 (.int x)) st h := x_istore_n hc_11 dX0_unload_1 rfl rfl (by decide)
theorem x_11_2 {ls st : List Value} {h : Hp}  : ex 11 2 ls (st) h = gI (ldI ls 1) 11 3 ls st h := x_iload_n hc_11 dX0_unload_2 rfl rfl
theorem x_11_3 {ls st : List Value} {h : Hp}  : ex 11 3 ls (st) h = ex 11 4 ls (.int (4) :: st) h := x_iconst hc_11 dX0_unload_3 rfl (by decide)
theorem x_11_4 {ls st : List Value} {h : Hp} {x z : Int32} : ex 11 4 ls (.int z :: .int x :: st) h = if x < z then ex 11 7 ls st h else ex 11 22 ls st h := x_icmp_ge hc_11 dX0_unload_4 rfl (by decide)
theorem x_11_7 {ls st : List Value} {h : Hp}  : ex 11 7 ls (st) h = gA (ldA ls 0) 11 8 ls st h := x_aload_n hc_11 dX0_unload_7 rfl rfl
theorem x_11_8 {ls st : List Value} {h : Hp} {k : Nat} : ex 11 8 ls (.ref k :: st) h = if kd k = 0 then ex 11 11 ls (vl h k 0 :: st) h else none := x_getf hc_11 dX0_unload_8 rfl fr_0_11
theorem x_11_11 {ls st : List Value} {h : Hp}  : ex 11 11 ls (st) h = gI (ldI ls 1) 11 12 ls st h := x_iload_n hc_11 dX0_unload_11 rfl rfl
theorem x_11_12 {ls st : List Value} {h : Hp} {k : Nat} {x : Int32} : ex 11 12 ls (.int x :: .ref k :: st) h = if (11 ≤ kd k ∧ kd k ≤ 14) ∧ x.toNatClampNeg < ln k ∧ 0 ≤ x then gA (rf k x.toNatClampNeg) 11 13 ls st h else none := x_aald hc_11 dX0_unload_12 rfl
theorem x_11_13 {ls st : List Value} {h : Hp} {k : Nat}  : ex 11 13 ls (.ref k :: st) h = if kd k = 6 ∧ st.length ≤ 4 then gC (ex 41 0 [.ref k] [] h) 11 16 ls st else none := x_callV (as := []) hc_11 dX0_unload_13 rfl mr_0_92 rfl rfl rfl (by decide) (by decide)
theorem x_11_16 {ls st : List Value} {h : Hp}  : ex 11 16 ls (st) h = gN (ldI ls 1) 11 19 ls 1 (1) st h := x_iinc hc_11 dX0_unload_16 rfl (by decide) (by decide)
theorem x_11_19 {ls st : List Value} {h : Hp}  : ex 11 19 ls (st) h = ex 11 2 ls st h := x_goto hc_11 dX0_unload_19 (by decide)
theorem x_11_22 {ls : List Value} {h : Hp} : ex 11 22 ls [] h = some (none, h) := x_vret hc_11 dX0_unload_22 rfl
theorem x_12_0 {ls st : List Value} {h : Hp}  : ex 12 0 ls (st) h = gA (ldA ls 0) 12 1 ls st h := x_aload_n hc_12 dX0_becomeLike_0 rfl rfl
theorem x_12_1 {ls st : List Value} {h : Hp}  : ex 12 1 ls (st) h = gA (ldA ls 1) 12 2 ls st h := x_aload_n hc_12 dX0_becomeLike_1 rfl rfl
theorem x_12_2 {ls st : List Value} {h : Hp} {k : Nat} : ex 12 2 ls (.ref k :: st) h = if kd k = 0 then ex 12 5 ls (vl h k 2 :: st) h else none := x_getf hc_12 dX0_becomeLike_2 rfl fr_0_56
theorem x_12_5 {ls st : List Value} {h : Hp} {k : Nat} {x : Int32} : ex 12 5 ls (.int x :: .ref k :: st) h = if kd k = 0 then ex 12 8 ls st (hu h k 2 x) else none := x_putf hc_12 dX0_becomeLike_5 rfl fr_0_56 (by decide)
theorem x_12_8 {ls st : List Value} {h : Hp}  : ex 12 8 ls (st) h = gA (ldA ls 0) 12 9 ls st h := x_aload_n hc_12 dX0_becomeLike_8 rfl rfl
theorem x_12_9 {ls st : List Value} {h : Hp}  : ex 12 9 ls (st) h = gA (ldA ls 1) 12 10 ls st h := x_aload_n hc_12 dX0_becomeLike_9 rfl rfl
theorem x_12_10 {ls st : List Value} {h : Hp} {k : Nat} : ex 12 10 ls (.ref k :: st) h = if kd k = 0 then ex 12 13 ls (vl h k 3 :: st) h else none := x_getf hc_12 dX0_becomeLike_10 rfl fr_0_21
theorem x_12_13 {ls st : List Value} {h : Hp} {k : Nat} {x : Int32} : ex 12 13 ls (.int x :: .ref k :: st) h = if kd k = 0 then ex 12 16 ls st (hu h k 3 x) else none := x_putf hc_12 dX0_becomeLike_13 rfl fr_0_21 (by decide)
theorem x_12_16 {ls st : List Value} {h : Hp}  : ex 12 16 ls (st) h = gA (ldA ls 0) 12 17 ls st h := x_aload_n hc_12 dX0_becomeLike_16 rfl rfl
theorem x_12_17 {ls st : List Value} {h : Hp}  : ex 12 17 ls (st) h = gA (ldA ls 1) 12 18 ls st h := x_aload_n hc_12 dX0_becomeLike_17 rfl rfl
theorem x_12_18 {ls st : List Value} {h : Hp} {k : Nat} : ex 12 18 ls (.ref k :: st) h = if kd k = 0 then ex 12 21 ls (vl h k 4 :: st) h else none := x_getf hc_12 dX0_becomeLike_18 rfl fr_0_25
theorem x_12_21 {ls st : List Value} {h : Hp} {k : Nat} {x : Int32} : ex 12 21 ls (.int x :: .ref k :: st) h = if kd k = 0 then ex 12 24 ls st (hu h k 4 x) else none := x_putf hc_12 dX0_becomeLike_21 rfl fr_0_25 (by decide)
theorem x_12_24 {ls st : List Value} {h : Hp}  : ex 12 24 ls (st) h = gA (ldA ls 0) 12 25 ls st h := x_aload_n hc_12 dX0_becomeLike_24 rfl rfl
theorem x_12_25 {ls st : List Value} {h : Hp}  : ex 12 25 ls (st) h = gA (ldA ls 1) 12 26 ls st h := x_aload_n hc_12 dX0_becomeLike_25 rfl rfl
theorem x_12_26 {ls st : List Value} {h : Hp} {k : Nat} : ex 12 26 ls (.ref k :: st) h = if kd k = 0 then ex 12 29 ls (vl h k 5 :: st) h else none := x_getf hc_12 dX0_becomeLike_26 rfl fr_0_28
theorem x_12_29 {ls st : List Value} {h : Hp} {k : Nat} {x : Int32} : ex 12 29 ls (.int x :: .ref k :: st) h = if kd k = 0 then ex 12 32 ls st (hu h k 5 x) else none := x_putf hc_12 dX0_becomeLike_29 rfl fr_0_28 (by decide)
theorem x_12_32 {ls st : List Value} {h : Hp}  : ex 12 32 ls (st) h = gA (ldA ls 0) 12 33 ls st h := x_aload_n hc_12 dX0_becomeLike_32 rfl rfl
theorem x_12_33 {ls st : List Value} {h : Hp}  : ex 12 33 ls (st) h = gA (ldA ls 1) 12 34 ls st h := x_aload_n hc_12 dX0_becomeLike_33 rfl rfl
theorem x_12_34 {ls st : List Value} {h : Hp} {k : Nat} : ex 12 34 ls (.ref k :: st) h = if kd k = 0 then ex 12 37 ls (vl h k 6 :: st) h else none := x_getf hc_12 dX0_becomeLike_34 rfl fr_0_31
theorem x_12_37 {ls st : List Value} {h : Hp} {k : Nat} {x : Int32} : ex 12 37 ls (.int x :: .ref k :: st) h = if kd k = 0 then ex 12 40 ls st (hu h k 6 x) else none := x_putf hc_12 dX0_becomeLike_37 rfl fr_0_31 (by decide)
theorem x_12_40 {ls st : List Value} {h : Hp}  : ex 12 40 ls (st) h = gA (ldA ls 0) 12 41 ls st h := x_aload_n hc_12 dX0_becomeLike_40 rfl rfl
theorem x_12_41 {ls st : List Value} {h : Hp}  : ex 12 41 ls (st) h = gA (ldA ls 1) 12 42 ls st h := x_aload_n hc_12 dX0_becomeLike_41 rfl rfl
theorem x_12_42 {ls st : List Value} {h : Hp} {k : Nat} : ex 12 42 ls (.ref k :: st) h = if kd k = 0 then ex 12 45 ls (vl h k 7 :: st) h else none := x_getf hc_12 dX0_becomeLike_42 rfl fr_0_34
theorem x_12_45 {ls st : List Value} {h : Hp} {k : Nat} {x : Int32} : ex 12 45 ls (.int x :: .ref k :: st) h = if kd k = 0 then ex 12 48 ls st (hu h k 7 x) else none := x_putf hc_12 dX0_becomeLike_45 rfl fr_0_34 (by decide)
theorem x_12_48 {ls st : List Value} {h : Hp}  : ex 12 48 ls (st) h = gA (ldA ls 0) 12 49 ls st h := x_aload_n hc_12 dX0_becomeLike_48 rfl rfl
theorem x_12_49 {ls st : List Value} {h : Hp}  : ex 12 49 ls (st) h = gA (ldA ls 1) 12 50 ls st h := x_aload_n hc_12 dX0_becomeLike_49 rfl rfl
theorem x_12_50 {ls st : List Value} {h : Hp} {k : Nat} : ex 12 50 ls (.ref k :: st) h = if kd k = 0 then ex 12 53 ls (vl h k 8 :: st) h else none := x_getf hc_12 dX0_becomeLike_50 rfl fr_0_37
theorem x_12_53 {ls st : List Value} {h : Hp} {k : Nat} {x : Int32} : ex 12 53 ls (.int x :: .ref k :: st) h = if kd k = 0 then ex 12 56 ls st (hu h k 8 x) else none := x_putf hc_12 dX0_becomeLike_53 rfl fr_0_37 (by decide)
theorem x_12_56 {ls st : List Value} {h : Hp}  : ex 12 56 ls (st) h = gA (ldA ls 0) 12 57 ls st h := x_aload_n hc_12 dX0_becomeLike_56 rfl rfl
theorem x_12_57 {ls st : List Value} {h : Hp}  : ex 12 57 ls (st) h = gA (ldA ls 1) 12 58 ls st h := x_aload_n hc_12 dX0_becomeLike_57 rfl rfl
theorem x_12_58 {ls st : List Value} {h : Hp} {k : Nat} : ex 12 58 ls (.ref k :: st) h = if kd k = 0 then ex 12 61 ls (vl h k 9 :: st) h else none := x_getf hc_12 dX0_becomeLike_58 rfl fr_0_40
theorem x_12_61 {ls st : List Value} {h : Hp} {k : Nat} {x : Int32} : ex 12 61 ls (.int x :: .ref k :: st) h = if kd k = 0 then ex 12 64 ls st (hu h k 9 x) else none := x_putf hc_12 dX0_becomeLike_61 rfl fr_0_40 (by decide)
theorem x_12_64 {ls st : List Value} {h : Hp}  : ex 12 64 ls (st) h = ex 12 65 ls (.int (0) :: st) h := x_iconst hc_12 dX0_becomeLike_64 rfl (by decide)
theorem x_12_65 {ls st : List Value} {h : Hp} {x : Int32} : ex 12 65 ls (.int x :: st) h = ex 12 66 (ls.set 2 (.int x)) st h := x_istore_n hc_12 dX0_becomeLike_65 rfl rfl (by decide)
theorem x_12_66 {ls st : List Value} {h : Hp}  : ex 12 66 ls (st) h = gI (ldI ls 2) 12 67 ls st h := x_iload_n hc_12 dX0_becomeLike_66 rfl rfl
theorem x_12_67 {ls st : List Value} {h : Hp}  : ex 12 67 ls (st) h = ex 12 68 ls (.int (4) :: st) h := x_iconst hc_12 dX0_becomeLike_67 rfl (by decide)
theorem x_12_68 {ls st : List Value} {h : Hp} {x z : Int32} : ex 12 68 ls (.int z :: .int x :: st) h = if x < z then ex 12 71 ls st h else ex 12 92 ls st h := x_icmp_ge hc_12 dX0_becomeLike_68 rfl (by decide)
theorem x_12_71 {ls st : List Value} {h : Hp}  : ex 12 71 ls (st) h = gA (ldA ls 0) 12 72 ls st h := x_aload_n hc_12 dX0_becomeLike_71 rfl rfl
theorem x_12_72 {ls st : List Value} {h : Hp} {k : Nat} : ex 12 72 ls (.ref k :: st) h = if kd k = 0 then ex 12 75 ls (vl h k 0 :: st) h else none := x_getf hc_12 dX0_becomeLike_72 rfl fr_0_11
theorem x_12_75 {ls st : List Value} {h : Hp}  : ex 12 75 ls (st) h = gI (ldI ls 2) 12 76 ls st h := x_iload_n hc_12 dX0_becomeLike_75 rfl rfl
theorem x_12_76 {ls st : List Value} {h : Hp} {k : Nat} {x : Int32} : ex 12 76 ls (.int x :: .ref k :: st) h = if (11 ≤ kd k ∧ kd k ≤ 14) ∧ x.toNatClampNeg < ln k ∧ 0 ≤ x then gA (rf k x.toNatClampNeg) 12 77 ls st h else none := x_aald hc_12 dX0_becomeLike_76 rfl
theorem x_12_77 {ls st : List Value} {h : Hp}  : ex 12 77 ls (st) h = gA (ldA ls 1) 12 78 ls st h := x_aload_n hc_12 dX0_becomeLike_77 rfl rfl
theorem x_12_78 {ls st : List Value} {h : Hp} {k : Nat} : ex 12 78 ls (.ref k :: st) h = if kd k = 0 then ex 12 81 ls (vl h k 0 :: st) h else none := x_getf hc_12 dX0_becomeLike_78 rfl fr_0_11
theorem x_12_81 {ls st : List Value} {h : Hp}  : ex 12 81 ls (st) h = gI (ldI ls 2) 12 82 ls st h := x_iload_n hc_12 dX0_becomeLike_81 rfl rfl
theorem x_12_82 {ls st : List Value} {h : Hp} {k : Nat} {x : Int32} : ex 12 82 ls (.int x :: .ref k :: st) h = if (11 ≤ kd k ∧ kd k ≤ 14) ∧ x.toNatClampNeg < ln k ∧ 0 ≤ x then gA (rf k x.toNatClampNeg) 12 83 ls st h else none := x_aald hc_12 dX0_becomeLike_82 rfl
theorem x_12_83 {ls st : List Value} {h : Hp} {k : Nat} {a0 : Nat} : ex 12 83 ls (.ref a0 :: .ref k :: st) h = if kd k = 6 ∧ st.length ≤ 4 then gC (ex 42 0 [.ref k, .ref a0] [] h) 12 86 ls st else none := x_callV (as := [.ref a0]) hc_12 dX0_becomeLike_83 rfl mr_0_95 rfl rfl rfl (by decide) (by decide)
theorem x_12_86 {ls st : List Value} {h : Hp}  : ex 12 86 ls (st) h = gN (ldI ls 2) 12 89 ls 2 (1) st h := x_iinc hc_12 dX0_becomeLike_86 rfl (by decide) (by decide)
theorem x_12_89 {ls st : List Value} {h : Hp}  : ex 12 89 ls (st) h = ex 12 66 ls st h := x_goto hc_12 dX0_becomeLike_89 (by decide)
theorem x_12_92 {ls : List Value} {h : Hp} : ex 12 92 ls [] h = some (none, h) := x_vret hc_12 dX0_becomeLike_92 rfl
theorem x_13_0 {ls st : List Value} {h : Hp}  : ex 13 0 ls (st) h = gA (ldA ls 0) 13 1 ls st h := x_aload_n hc_13 dX1_putIn_0 rfl rfl
theorem x_13_1 {ls st : List Value} {h : Hp} {k : Nat} : ex 13 1 ls (.ref k :: st) h = if kd k = 1 then ex 13 4 ls (vl h k 0 :: st) h else none := x_getf hc_13 dX1_putIn_1 rfl fr_1_9
theorem x_13_4 {ls st : List Value} {h : Hp}  : ex 13 4 ls (st) h = gA (ldA ls 1) 13 5 ls st h := x_aload_n hc_13 dX1_putIn_4 rfl rfl
theorem x_13_5 {ls st : List Value} {h : Hp} {k : Nat} : ex 13 5 ls (.ref k :: st) h = if kd k = 0 then ex 13 8 ls (vl h k 6 :: st) h else none := x_getf hc_13 dX1_putIn_5 rfl fr_1_31
theorem x_13_8ii {ls st : List Value} {h : Hp} {u : Int32} {v : Int32} : ex 13 8 ls (.int u :: .int v :: st) h = ex 13 9 ls (.int u :: .int v :: .int u :: .int v :: st) h := x_dup2_ii hc_13 dX1_putIn_8 rfl
theorem x_13_8ia {ls st : List Value} {h : Hp} {u : Int32} {v : Nat} : ex 13 8 ls (.int u :: .ref v :: st) h = ex 13 9 ls (.int u :: .ref v :: .int u :: .ref v :: st) h := x_dup2_ia hc_13 dX1_putIn_8 rfl
theorem x_13_8ai {ls st : List Value} {h : Hp} {u : Nat} {v : Int32} : ex 13 8 ls (.ref u :: .int v :: st) h = ex 13 9 ls (.ref u :: .int v :: .ref u :: .int v :: st) h := x_dup2_ai hc_13 dX1_putIn_8 rfl
theorem x_13_8aa {ls st : List Value} {h : Hp} {u : Nat} {v : Nat} : ex 13 8 ls (.ref u :: .ref v :: st) h = ex 13 9 ls (.ref u :: .ref v :: .ref u :: .ref v :: st) h := x_dup2_aa hc_13 dX1_putIn_8 rfl
theorem x_13_9 {ls st : List Value} {h : Hp} {k : Nat} {x : Int32} : ex 13 9 ls (.int x :: .ref k :: st) h = if kd k = 9 ∧ x.toNatClampNeg < ln k ∧ 0 ≤ x then ex 13 10 ls (.int (h k x.toNatClampNeg) :: st) h else none := x_iald hc_13 dX1_putIn_9 rfl
theorem x_13_10 {ls st : List Value} {h : Hp}  : ex 13 10 ls (st) h = gI (ldI ls 2) 13 11 ls st h := x_iload_n hc_13 dX1_putIn_10 rfl rfl
theorem x_13_11 {ls st : List Value} {h : Hp} {a b : Int32} : ex 13 11 ls (.int b :: .int a :: st) h = ex 13 12 ls (.int (a - b) :: st) h := x_isub hc_13 dX1_putIn_11 rfl
theorem x_13_12 {ls st : List Value} {h : Hp} {k : Nat} {x u : Int32} : ex 13 12 ls (.int u :: .int x :: .ref k :: st) h = if kd k = 9 ∧ x.toNatClampNeg < ln k ∧ 0 ≤ x then ex 13 13 ls st (hu h k x.toNatClampNeg u) else none := x_iast hc_13 dX1_putIn_12 rfl
theorem x_13_13 {ls st : List Value} {h : Hp}  : ex 13 13 ls (st) h = gA (ldA ls 1) 13 14 ls st h := x_aload_n hc_13 dX1_putIn_13 rfl rfl
theorem x_13_14i {ls st : List Value} {h : Hp} {u : Int32} : ex 13 14 ls (.int u :: st) h = ex 13 15 ls (.int u :: .int u :: st) h := x_dup_i hc_13 dX1_putIn_14 rfl
theorem x_13_14a {ls st : List Value} {h : Hp} {u : Nat} : ex 13 14 ls (.ref u :: st) h = ex 13 15 ls (.ref u :: .ref u :: st) h := x_dup_a hc_13 dX1_putIn_14 rfl
theorem x_13_15 {ls st : List Value} {h : Hp} {k : Nat} : ex 13 15 ls (.ref k :: st) h = if kd k = 0 then ex 13 18 ls (vl h k 4 :: st) h else none := x_getf hc_13 dX1_putIn_15 rfl fr_1_36
theorem x_13_18 {ls st : List Value} {h : Hp}  : ex 13 18 ls (st) h = gI (ldI ls 2) 13 19 ls st h := x_iload_n hc_13 dX1_putIn_18 rfl rfl
theorem x_13_19 {ls st : List Value} {h : Hp} {a b : Int32} : ex 13 19 ls (.int b :: .int a :: st) h = ex 13 20 ls (.int (a + b) :: st) h := x_iadd hc_13 dX1_putIn_19 rfl
theorem x_13_20 {ls st : List Value} {h : Hp} {k : Nat} {x : Int32} : ex 13 20 ls (.int x :: .ref k :: st) h = if kd k = 0 then ex 13 23 ls st (hu h k 4 x) else none := x_putf hc_13 dX1_putIn_20 rfl fr_1_36 (by decide)
theorem x_13_23 {ls st : List Value} {h : Hp}  : ex 13 23 ls (st) h = gA (ldA ls 0) 13 24 ls st h := x_aload_n hc_13 dX1_putIn_23 rfl rfl
theorem x_13_24i {ls st : List Value} {h : Hp} {u : Int32} : ex 13 24 ls (.int u :: st) h = ex 13 25 ls (.int u :: .int u :: st) h := x_dup_i hc_13 dX1_putIn_24 rfl
theorem x_13_24a {ls st : List Value} {h : Hp} {u : Nat} : ex 13 24 ls (.ref u :: st) h = ex 13 25 ls (.ref u :: .ref u :: st) h := x_dup_a hc_13 dX1_putIn_24 rfl
theorem x_13_25 {ls st : List Value} {h : Hp} {k : Nat} : ex 13 25 ls (.ref k :: st) h = if kd k = 1 then ex 13 28 ls (vl h k 2 :: st) h else none := x_getf hc_13 dX1_putIn_25 rfl fr_1_18
theorem x_13_28 {ls st : List Value} {h : Hp}  : ex 13 28 ls (st) h = gI (ldI ls 2) 13 29 ls st h := x_iload_n hc_13 dX1_putIn_28 rfl rfl
theorem x_13_29 {ls st : List Value} {h : Hp} {a b : Int32} : ex 13 29 ls (.int b :: .int a :: st) h = ex 13 30 ls (.int (a + b) :: st) h := x_iadd hc_13 dX1_putIn_29 rfl
theorem x_13_30 {ls st : List Value} {h : Hp} {k : Nat} {x : Int32} : ex 13 30 ls (.int x :: .ref k :: st) h = if kd k = 1 then ex 13 33 ls st (hu h k 2 x) else none := x_putf hc_13 dX1_putIn_30 rfl fr_1_18 (by decide)
theorem x_13_33 {ls : List Value} {h : Hp} : ex 13 33 ls [] h = some (none, h) := x_vret hc_13 dX1_putIn_33 rfl
theorem x_14_0 {ls st : List Value} {h : Hp}  : ex 14 0 ls (st) h = gA (ldA ls 0) 14 1 ls st h := x_aload_n hc_14 dX1_beginHour_0 rfl rfl
theorem x_14_1 {ls st : List Value} {h : Hp} {k : Nat} : ex 14 1 ls (.ref k :: st) h = if kd k = 1 then ex 14 4 ls (vl h k 1 :: st) h else none := x_getf hc_14 dX1_beginHour_1 rfl fr_1_15
theorem x_14_4 {ls st : List Value} {h : Hp}  : ex 14 4 ls (st) h = ex 14 5 ls (.int (0) :: st) h := x_iconst hc_14 dX1_beginHour_4 rfl (by decide)
theorem x_14_5 {ls st : List Value} {h : Hp} {a0 : Nat} {a1 : Int32} : ex 14 5 ls (.int a1 :: .ref a0 :: st) h = if st.length ≤ 4 then gC (ex 150 0 [.ref a0, .int a1, .null, .null] [] h) 14 8 ls st else none := x_callS (as := [.ref a0, .int a1]) hc_14 dX1_beginHour_5 rfl mr_1_25 rfl rfl rfl (by decide)
theorem x_14_8 {ls : List Value} {h : Hp} : ex 14 8 ls [] h = some (none, h) := x_vret hc_14 dX1_beginHour_8 rfl
theorem x_15_0 {ls st : List Value} {h : Hp}  : ex 15 0 ls (st) h = gI (ldI ls 3) 15 1 ls st h := x_iload_n hc_15 dX1_giveByGang_0 rfl rfl
theorem x_15_1 {ls st : List Value} {h : Hp}  : ex 15 1 ls (st) h = gA (ldA ls 0) 15 2 ls st h := x_aload_n hc_15 dX1_giveByGang_1 rfl rfl
theorem x_15_2 {ls st : List Value} {h : Hp} {k : Nat} : ex 15 2 ls (.ref k :: st) h = if kd k = 1 then ex 15 5 ls (vl h k 1 :: st) h else none := x_getf hc_15 dX1_giveByGang_2 rfl fr_1_15
theorem x_15_5 {ls st : List Value} {h : Hp}  : ex 15 5 ls (st) h = gA (ldA ls 1) 15 6 ls st h := x_aload_n hc_15 dX1_giveByGang_5 rfl rfl
theorem x_15_6 {ls st : List Value} {h : Hp} {k : Nat} : ex 15 6 ls (.ref k :: st) h = if kd k = 0 then ex 15 9 ls (vl h k 6 :: st) h else none := x_getf hc_15 dX1_giveByGang_6 rfl fr_1_31
theorem x_15_9 {ls st : List Value} {h : Hp} {k : Nat} {x : Int32} : ex 15 9 ls (.int x :: .ref k :: st) h = if kd k = 9 ∧ x.toNatClampNeg < ln k ∧ 0 ≤ x then ex 15 10 ls (.int (h k x.toNatClampNeg) :: st) h else none := x_iald hc_15 dX1_giveByGang_9 rfl
theorem x_15_10 {ls st : List Value} {h : Hp} {a b : Int32} : ex 15 10 ls (.int b :: .int a :: st) h = ex 15 11 ls (.int (a - b) :: st) h := x_isub hc_15 dX1_giveByGang_10 rfl
theorem x_15_11 {ls st : List Value} {h : Hp} {x : Int32} : ex 15 11 ls (.int x :: st) h = ex 15 13 (ls.set 4 (.int x)) st h := x_istore hc_15 dX1_giveByGang_11 rfl (by decide)
theorem x_15_13 {ls st : List Value} {h : Hp}  : ex 15 13 ls (st) h = gI (ldI ls 2) 15 14 ls st h := x_iload_n hc_15 dX1_giveByGang_13 rfl rfl
theorem x_15_14 {ls st : List Value} {h : Hp}  : ex 15 14 ls (st) h = gA (ldA ls 0) 15 15 ls st h := x_aload_n hc_15 dX1_giveByGang_14 rfl rfl
theorem x_15_15 {ls st : List Value} {h : Hp} {k : Nat} : ex 15 15 ls (.ref k :: st) h = if kd k = 1 then ex 15 18 ls (vl h k 0 :: st) h else none := x_getf hc_15 dX1_giveByGang_15 rfl fr_1_9
theorem x_15_18 {ls st : List Value} {h : Hp}  : ex 15 18 ls (st) h = gA (ldA ls 1) 15 19 ls st h := x_aload_n hc_15 dX1_giveByGang_18 rfl rfl
theorem x_15_19 {ls st : List Value} {h : Hp} {k : Nat} : ex 15 19 ls (.ref k :: st) h = if kd k = 0 then ex 15 22 ls (vl h k 6 :: st) h else none := x_getf hc_15 dX1_giveByGang_19 rfl fr_1_31
theorem x_15_22 {ls st : List Value} {h : Hp} {k : Nat} {x : Int32} : ex 15 22 ls (.int x :: .ref k :: st) h = if kd k = 9 ∧ x.toNatClampNeg < ln k ∧ 0 ≤ x then ex 15 23 ls (.int (h k x.toNatClampNeg) :: st) h else none := x_iald hc_15 dX1_giveByGang_22 rfl
theorem x_15_23 {ls st : List Value} {h : Hp}  : ex 15 23 ls (st) h = gI (ldI ls 4) 15 25 ls st h := x_iload hc_15 dX1_giveByGang_23 rfl
theorem x_15_25 {ls st : List Value} {h : Hp} {a0 : Int32} {a1 : Int32} : ex 15 25 ls (.int a1 :: .int a0 :: st) h = if st.length ≤ 4 then gC (ex 148 0 [.int a0, .int a1] [] h) 15 28 ls st else none := x_callS (as := [.int a0, .int a1]) hc_15 dX1_giveByGang_25 rfl mr_1_39 rfl rfl rfl (by decide)
theorem x_15_28 {ls st : List Value} {h : Hp} {a0 : Int32} {a1 : Int32} : ex 15 28 ls (.int a1 :: .int a0 :: st) h = if st.length ≤ 4 then gC (ex 148 0 [.int a0, .int a1] [] h) 15 31 ls st else none := x_callS (as := [.int a0, .int a1]) hc_15 dX1_giveByGang_28 rfl mr_1_39 rfl rfl rfl (by decide)
theorem x_15_31 {ls st : List Value} {h : Hp} {x : Int32} : ex 15 31 ls (.int x :: st) h = ex 15 33 (ls.set 5 (.int x)) st h := x_istore hc_15 dX1_giveByGang_31 rfl (by decide)
theorem x_15_33 {ls st : List Value} {h : Hp}  : ex 15 33 ls (st) h = gA (ldA ls 0) 15 34 ls st h := x_aload_n hc_15 dX1_giveByGang_33 rfl rfl
theorem x_15_34 {ls st : List Value} {h : Hp} {k : Nat} : ex 15 34 ls (.ref k :: st) h = if kd k = 1 then ex 15 37 ls (vl h k 1 :: st) h else none := x_getf hc_15 dX1_giveByGang_34 rfl fr_1_15
theorem x_15_37 {ls st : List Value} {h : Hp}  : ex 15 37 ls (st) h = gA (ldA ls 1) 15 38 ls st h := x_aload_n hc_15 dX1_giveByGang_37 rfl rfl
theorem x_15_38 {ls st : List Value} {h : Hp} {k : Nat} : ex 15 38 ls (.ref k :: st) h = if kd k = 0 then ex 15 41 ls (vl h k 6 :: st) h else none := x_getf hc_15 dX1_giveByGang_38 rfl fr_1_31
theorem x_15_41ii {ls st : List Value} {h : Hp} {u : Int32} {v : Int32} : ex 15 41 ls (.int u :: .int v :: st) h = ex 15 42 ls (.int u :: .int v :: .int u :: .int v :: st) h := x_dup2_ii hc_15 dX1_giveByGang_41 rfl
theorem x_15_41ia {ls st : List Value} {h : Hp} {u : Int32} {v : Nat} : ex 15 41 ls (.int u :: .ref v :: st) h = ex 15 42 ls (.int u :: .ref v :: .int u :: .ref v :: st) h := x_dup2_ia hc_15 dX1_giveByGang_41 rfl
theorem x_15_41ai {ls st : List Value} {h : Hp} {u : Nat} {v : Int32} : ex 15 41 ls (.ref u :: .int v :: st) h = ex 15 42 ls (.ref u :: .int v :: .ref u :: .int v :: st) h := x_dup2_ai hc_15 dX1_giveByGang_41 rfl
theorem x_15_41aa {ls st : List Value} {h : Hp} {u : Nat} {v : Nat} : ex 15 41 ls (.ref u :: .ref v :: st) h = ex 15 42 ls (.ref u :: .ref v :: .ref u :: .ref v :: st) h := x_dup2_aa hc_15 dX1_giveByGang_41 rfl
theorem x_15_42 {ls st : List Value} {h : Hp} {k : Nat} {x : Int32} : ex 15 42 ls (.int x :: .ref k :: st) h = if kd k = 9 ∧ x.toNatClampNeg < ln k ∧ 0 ≤ x then ex 15 43 ls (.int (h k x.toNatClampNeg) :: st) h else none := x_iald hc_15 dX1_giveByGang_42 rfl
theorem x_15_43 {ls st : List Value} {h : Hp}  : ex 15 43 ls (st) h = gI (ldI ls 5) 15 45 ls st h := x_iload hc_15 dX1_giveByGang_43 rfl
theorem x_15_45 {ls st : List Value} {h : Hp} {a b : Int32} : ex 15 45 ls (.int b :: .int a :: st) h = ex 15 46 ls (.int (a + b) :: st) h := x_iadd hc_15 dX1_giveByGang_45 rfl
theorem x_15_46 {ls st : List Value} {h : Hp} {k : Nat} {x u : Int32} : ex 15 46 ls (.int u :: .int x :: .ref k :: st) h = if kd k = 9 ∧ x.toNatClampNeg < ln k ∧ 0 ≤ x then ex 15 47 ls st (hu h k x.toNatClampNeg u) else none := x_iast hc_15 dX1_giveByGang_46 rfl
theorem x_15_47 {ls st : List Value} {h : Hp}  : ex 15 47 ls (st) h = gA (ldA ls 0) 15 48 ls st h := x_aload_n hc_15 dX1_giveByGang_47 rfl rfl
theorem x_15_48 {ls st : List Value} {h : Hp}  : ex 15 48 ls (st) h = gA (ldA ls 1) 15 49 ls st h := x_aload_n hc_15 dX1_giveByGang_48 rfl rfl
theorem x_15_49 {ls st : List Value} {h : Hp}  : ex 15 49 ls (st) h = gI (ldI ls 5) 15 51 ls st h := x_iload hc_15 dX1_giveByGang_49 rfl
theorem x_15_51 {ls st : List Value} {h : Hp} {k : Nat} {a0 : Nat} {a1 : Int32} : ex 15 51 ls (.int a1 :: .ref a0 :: .ref k :: st) h = if kd k = 1 ∧ st.length ≤ 4 then gC (ex 13 0 [.ref k, .ref a0, .int a1] [] h) 15 54 ls st else none := x_callV (as := [.ref a0, .int a1]) hc_15 dX1_giveByGang_51 rfl mr_1_45 rfl rfl rfl (by decide) (by decide)
theorem x_15_54 {ls st : List Value} {h : Hp}  : ex 15 54 ls (st) h = gA (ldA ls 1) 15 55 ls st h := x_aload_n hc_15 dX1_giveByGang_54 rfl rfl
theorem x_15_55i {ls st : List Value} {h : Hp} {u : Int32} : ex 15 55 ls (.int u :: st) h = ex 15 56 ls (.int u :: .int u :: st) h := x_dup_i hc_15 dX1_giveByGang_55 rfl
theorem x_15_55a {ls st : List Value} {h : Hp} {u : Nat} : ex 15 55 ls (.ref u :: st) h = ex 15 56 ls (.ref u :: .ref u :: st) h := x_dup_a hc_15 dX1_giveByGang_55 rfl
theorem x_15_56 {ls st : List Value} {h : Hp} {k : Nat} : ex 15 56 ls (.ref k :: st) h = if kd k = 0 then ex 15 59 ls (vl h k 10 :: st) h else none := x_getf hc_15 dX1_giveByGang_56 rfl fr_1_49
theorem x_15_59 {ls st : List Value} {h : Hp}  : ex 15 59 ls (st) h = gI (ldI ls 2) 15 60 ls st h := x_iload_n hc_15 dX1_giveByGang_59 rfl rfl
theorem x_15_60 {ls st : List Value} {h : Hp}  : ex 15 60 ls (st) h = gI (ldI ls 5) 15 62 ls st h := x_iload hc_15 dX1_giveByGang_60 rfl
theorem x_15_62 {ls st : List Value} {h : Hp} {a b : Int32} : ex 15 62 ls (.int b :: .int a :: st) h = ex 15 63 ls (.int (a - b) :: st) h := x_isub hc_15 dX1_giveByGang_62 rfl
theorem x_15_63 {ls st : List Value} {h : Hp} {a b : Int32} : ex 15 63 ls (.int b :: .int a :: st) h = ex 15 64 ls (.int (a + b) :: st) h := x_iadd hc_15 dX1_giveByGang_63 rfl
theorem x_15_64 {ls st : List Value} {h : Hp} {k : Nat} {x : Int32} : ex 15 64 ls (.int x :: .ref k :: st) h = if kd k = 0 then ex 15 67 ls st (hu h k 10 x) else none := x_putf hc_15 dX1_giveByGang_64 rfl fr_1_49 (by decide)
theorem x_15_67 {ls st : List Value} {h : Hp}  : ex 15 67 ls (st) h = gI (ldI ls 5) 15 69 ls st h := x_iload hc_15 dX1_giveByGang_67 rfl
theorem x_15_69 {ls : List Value} {h : Hp} {v : Int32} : ex 15 69 ls [.int v] h = some (some (.int v), h) := x_iret hc_15 dX1_giveByGang_69 rfl
theorem x_16_0 {ls st : List Value} {h : Hp}  : ex 16 0 ls (st) h = gA (ldA ls 1) 16 1 ls st h := x_aload_n hc_16 dX1_becomeLike_0 rfl rfl
theorem x_16_1 {ls st : List Value} {h : Hp} {k : Nat} : ex 16 1 ls (.ref k :: st) h = if kd k = 1 then ex 16 4 ls (vl h k 0 :: st) h else none := x_getf hc_16 dX1_becomeLike_1 rfl fr_1_9
theorem x_16_4 {ls st : List Value} {h : Hp}  : ex 16 4 ls (st) h = ex 16 5 ls (.int (0) :: st) h := x_iconst hc_16 dX1_becomeLike_4 rfl (by decide)
theorem x_16_5 {ls st : List Value} {h : Hp}  : ex 16 5 ls (st) h = gA (ldA ls 0) 16 6 ls st h := x_aload_n hc_16 dX1_becomeLike_5 rfl rfl
theorem x_16_6 {ls st : List Value} {h : Hp} {k : Nat} : ex 16 6 ls (.ref k :: st) h = if kd k = 1 then ex 16 9 ls (vl h k 0 :: st) h else none := x_getf hc_16 dX1_becomeLike_6 rfl fr_1_9
theorem x_16_9 {ls st : List Value} {h : Hp}  : ex 16 9 ls (st) h = ex 16 10 ls (.int (0) :: st) h := x_iconst hc_16 dX1_becomeLike_9 rfl (by decide)
theorem x_16_10 {ls st : List Value} {h : Hp}  : ex 16 10 ls (st) h = ex 16 12 ls (.int (8) :: st) h := x_bipush hc_16 dX1_becomeLike_10 rfl (by decide)
theorem x_16_12 {ls st : List Value} {h : Hp} {k0 k1 : Nat} {sp dp n : Int32} : ex 16 12 ls (.int n :: .int dp :: .ref k1 :: .int sp :: .ref k0 :: st) h = if (kd k0 = 9 ∧ kd k1 = 9) ∧ (¬ sp < 0 ∧ ¬ dp < 0 ∧ ¬ n < 0) ∧ (sp.toNatClampNeg + n.toNatClampNeg ≤ ln k0 ∧ dp.toNatClampNeg + n.toNatClampNeg ≤ ln k1) ∧ st.length ≤ 4 then ex 16 15 ls st (hw h k1 (va_cpy (h k0) (h k1) sp.toNatClampNeg dp.toNatClampNeg n.toNatClampNeg)) else none := x_copy hc_16 dX1_becomeLike_12 rfl mn_1_52 pr_1_52 (by decide)
theorem x_16_15 {ls : List Value} {h : Hp} : ex 16 15 ls [] h = some (none, h) := x_vret hc_16 dX1_becomeLike_15 rfl
theorem x_17_0 {ls st : List Value} {h : Hp}  : ex 17 0 ls (st) h = gA (ldA ls 0) 17 1 ls st h := x_aload_n hc_17 dX2_put_0 rfl rfl
theorem x_17_1 {ls st : List Value} {h : Hp} {k : Nat} : ex 17 1 ls (.ref k :: st) h = if kd k = 2 then ex 17 4 ls (vl h k 1 :: st) h else none := x_getf hc_17 dX2_put_1 rfl fr_2_15
theorem x_17_4 {ls st : List Value} {h : Hp} {x : Int32} : ex 17 4 ls (.int x :: st) h = if x = 0 then ex 17 7 ls st h else ex 17 20 ls st h := x_if_ne hc_17 dX2_put_4 rfl (by decide)
theorem x_17_7 {ls st : List Value} {h : Hp}  : ex 17 7 ls (st) h = gA (ldA ls 0) 17 8 ls st h := x_aload_n hc_17 dX2_put_7 rfl rfl
theorem x_17_8 {ls st : List Value} {h : Hp} {k : Nat} : ex 17 8 ls (.ref k :: st) h = if kd k = 2 then ex 17 11 ls (vl h k 0 :: st) h else none := x_getf hc_17 dX2_put_8 rfl fr_2_9
theorem x_17_11 {ls st : List Value} {h : Hp}  : ex 17 11 ls (st) h = ex 17 12 ls (.int (0) :: st) h := x_iconst hc_17 dX2_put_11 rfl (by decide)
theorem x_17_12 {ls st : List Value} {h : Hp} {a0 : Nat} {a1 : Int32} : ex 17 12 ls (.int a1 :: .ref a0 :: st) h = if st.length ≤ 4 then gC (ex 150 0 [.ref a0, .int a1, .null, .null] [] h) 17 15 ls st else none := x_callS (as := [.ref a0, .int a1]) hc_17 dX2_put_12 rfl mr_2_19 rfl rfl rfl (by decide)
theorem x_17_15 {ls st : List Value} {h : Hp}  : ex 17 15 ls (st) h = gA (ldA ls 0) 17 16 ls st h := x_aload_n hc_17 dX2_put_15 rfl rfl
theorem x_17_16 {ls st : List Value} {h : Hp}  : ex 17 16 ls (st) h = ex 17 17 ls (.int (1) :: st) h := x_iconst hc_17 dX2_put_16 rfl (by decide)
theorem x_17_17 {ls st : List Value} {h : Hp} {k : Nat} {x : Int32} : ex 17 17 ls (.int x :: .ref k :: st) h = if kd k = 2 ∧ (x = 0 ∨ x = 1) then ex 17 20 ls st (hu h k 1 x) else none := x_putz hc_17 dX2_put_17 rfl fr_2_15 (by decide)
theorem x_17_20 {ls st : List Value} {h : Hp}  : ex 17 20 ls (st) h = gA (ldA ls 0) 17 21 ls st h := x_aload_n hc_17 dX2_put_20 rfl rfl
theorem x_17_21 {ls st : List Value} {h : Hp} {k : Nat} : ex 17 21 ls (.ref k :: st) h = if kd k = 2 then ex 17 24 ls (vl h k 0 :: st) h else none := x_getf hc_17 dX2_put_21 rfl fr_2_9
theorem x_17_24 {ls st : List Value} {h : Hp}  : ex 17 24 ls (st) h = gI (ldI ls 1) 17 25 ls st h := x_iload_n hc_17 dX2_put_24 rfl rfl
theorem x_17_25 {ls st : List Value} {h : Hp}  : ex 17 25 ls (st) h = gI (ldI ls 2) 17 26 ls st h := x_iload_n hc_17 dX2_put_25 rfl rfl
theorem x_17_26 {ls st : List Value} {h : Hp} {k : Nat} {x u : Int32} : ex 17 26 ls (.int u :: .int x :: .ref k :: st) h = if kd k = 9 ∧ x.toNatClampNeg < ln k ∧ 0 ≤ x then ex 17 27 ls st (hu h k x.toNatClampNeg u) else none := x_iast hc_17 dX2_put_26 rfl
theorem x_17_27 {ls : List Value} {h : Hp} : ex 17 27 ls [] h = some (none, h) := x_vret hc_17 dX2_put_27 rfl
theorem x_18_0 {ls st : List Value} {h : Hp}  : ex 18 0 ls (st) h = gI (ldI ls 2) 18 1 ls st h := x_iload_n hc_18 dX3_holds_0 rfl rfl
theorem x_18_1 {ls st : List Value} {h : Hp}  : ex 18 1 ls (st) h = gA (ldA ls 0) 18 2 ls st h := x_aload_n hc_18 dX3_holds_1 rfl rfl
theorem x_18_2 {ls st : List Value} {h : Hp} {k : Nat} : ex 18 2 ls (.ref k :: st) h = if kd k = 3 then ex 18 5 ls (vl h k 6 :: st) h else none := x_getf hc_18 dX3_holds_2 rfl fr_3_30
theorem x_18_5 {ls st : List Value} {h : Hp} {x z : Int32} : ex 18 5 ls (.int z :: .int x :: st) h = if x < z then ex 18 16 ls st h else ex 18 8 ls st h := x_icmp_lt hc_18 dX3_holds_5 rfl (by decide)
theorem x_18_8 {ls st : List Value} {h : Hp}  : ex 18 8 ls (st) h = gI (ldI ls 2) 18 9 ls st h := x_iload_n hc_18 dX3_holds_8 rfl rfl
theorem x_18_9 {ls st : List Value} {h : Hp}  : ex 18 9 ls (st) h = gA (ldA ls 0) 18 10 ls st h := x_aload_n hc_18 dX3_holds_9 rfl rfl
theorem x_18_10 {ls st : List Value} {h : Hp} {k : Nat} : ex 18 10 ls (.ref k :: st) h = if kd k = 3 then ex 18 13 ls (vl h k 7 :: st) h else none := x_getf hc_18 dX3_holds_10 rfl fr_3_33
theorem x_18_13 {ls st : List Value} {h : Hp} {x z : Int32} : ex 18 13 ls (.int z :: .int x :: st) h = if x < z then ex 18 18 ls st h else ex 18 16 ls st h := x_icmp_lt hc_18 dX3_holds_13 rfl (by decide)
theorem x_18_16 {ls st : List Value} {h : Hp}  : ex 18 16 ls (st) h = ex 18 17 ls (.int (0) :: st) h := x_iconst hc_18 dX3_holds_16 rfl (by decide)
theorem x_18_17 {ls : List Value} {h : Hp} {v : Int32} : ex 18 17 ls [.int v] h = if v = 0 ∨ v = 1 then some (some (.int v), h) else none := x_zret hc_18 dX3_holds_17 rfl
theorem x_18_18 {ls st : List Value} {h : Hp}  : ex 18 18 ls (st) h = ex 18 19 ls (.int (0) :: st) h := x_iconst hc_18 dX3_holds_18 rfl (by decide)
theorem x_18_19 {ls st : List Value} {h : Hp} {x : Int32} : ex 18 19 ls (.int x :: st) h = ex 18 20 (ls.set 3 (.int x)) st h := x_istore_n hc_18 dX3_holds_19 rfl rfl (by decide)
theorem x_18_20 {ls st : List Value} {h : Hp}  : ex 18 20 ls (st) h = gI (ldI ls 3) 18 21 ls st h := x_iload_n hc_18 dX3_holds_20 rfl rfl
theorem x_18_21 {ls st : List Value} {h : Hp}  : ex 18 21 ls (st) h = gA (ldA ls 0) 18 22 ls st h := x_aload_n hc_18 dX3_holds_21 rfl rfl
theorem x_18_22 {ls st : List Value} {h : Hp} {k : Nat} : ex 18 22 ls (.ref k :: st) h = if kd k = 3 then ex 18 25 ls (vl h k 5 :: st) h else none := x_getf hc_18 dX3_holds_22 rfl fr_3_27
theorem x_18_25 {ls st : List Value} {h : Hp} {x z : Int32} : ex 18 25 ls (.int z :: .int x :: st) h = if x < z then ex 18 28 ls st h else ex 18 62 ls st h := x_icmp_ge hc_18 dX3_holds_25 rfl (by decide)
theorem x_18_28 {ls st : List Value} {h : Hp}  : ex 18 28 ls (st) h = gA (ldA ls 1) 18 29 ls st h := x_aload_n hc_18 dX3_holds_28 rfl rfl
theorem x_18_29 {ls st : List Value} {h : Hp}  : ex 18 29 ls (st) h = gA (ldA ls 0) 18 30 ls st h := x_aload_n hc_18 dX3_holds_29 rfl rfl
theorem x_18_30 {ls st : List Value} {h : Hp} {k : Nat} : ex 18 30 ls (.ref k :: st) h = if kd k = 3 then ex 18 33 ls (vl h k 0 :: st) h else none := x_getf hc_18 dX3_holds_30 rfl fr_3_9
theorem x_18_33 {ls st : List Value} {h : Hp}  : ex 18 33 ls (st) h = gI (ldI ls 3) 18 34 ls st h := x_iload_n hc_18 dX3_holds_33 rfl rfl
theorem x_18_34 {ls st : List Value} {h : Hp} {k : Nat} {x : Int32} : ex 18 34 ls (.int x :: .ref k :: st) h = if kd k = 9 ∧ x.toNatClampNeg < ln k ∧ 0 ≤ x then ex 18 35 ls (.int (h k x.toNatClampNeg) :: st) h else none := x_iald hc_18 dX3_holds_34 rfl
theorem x_18_35 {ls st : List Value} {h : Hp} {k : Nat} {x : Int32} : ex 18 35 ls (.int x :: .ref k :: st) h = if kd k = 9 ∧ x.toNatClampNeg < ln k ∧ 0 ≤ x then ex 18 36 ls (.int (h k x.toNatClampNeg) :: st) h else none := x_iald hc_18 dX3_holds_35 rfl
theorem x_18_36 {ls st : List Value} {h : Hp}  : ex 18 36 ls (st) h = gA (ldA ls 0) 18 37 ls st h := x_aload_n hc_18 dX3_holds_36 rfl rfl
theorem x_18_37 {ls st : List Value} {h : Hp} {k : Nat} : ex 18 37 ls (.ref k :: st) h = if kd k = 3 then ex 18 40 ls (vl h k 1 :: st) h else none := x_getf hc_18 dX3_holds_37 rfl fr_3_13
theorem x_18_40 {ls st : List Value} {h : Hp}  : ex 18 40 ls (st) h = gI (ldI ls 3) 18 41 ls st h := x_iload_n hc_18 dX3_holds_40 rfl rfl
theorem x_18_41 {ls st : List Value} {h : Hp} {k : Nat} {x : Int32} : ex 18 41 ls (.int x :: .ref k :: st) h = if kd k = 9 ∧ x.toNatClampNeg < ln k ∧ 0 ≤ x then ex 18 42 ls (.int (h k x.toNatClampNeg) :: st) h else none := x_iald hc_18 dX3_holds_41 rfl
theorem x_18_42 {ls st : List Value} {h : Hp}  : ex 18 42 ls (st) h = gA (ldA ls 0) 18 43 ls st h := x_aload_n hc_18 dX3_holds_42 rfl rfl
theorem x_18_43 {ls st : List Value} {h : Hp} {k : Nat} : ex 18 43 ls (.ref k :: st) h = if kd k = 3 then ex 18 46 ls (vl h k 2 :: st) h else none := x_getf hc_18 dX3_holds_43 rfl fr_3_16
theorem x_18_46 {ls st : List Value} {h : Hp}  : ex 18 46 ls (st) h = gI (ldI ls 3) 18 47 ls st h := x_iload_n hc_18 dX3_holds_46 rfl rfl
theorem x_18_47 {ls st : List Value} {h : Hp} {k : Nat} {x : Int32} : ex 18 47 ls (.int x :: .ref k :: st) h = if kd k = 9 ∧ x.toNatClampNeg < ln k ∧ 0 ≤ x then ex 18 48 ls (.int (h k x.toNatClampNeg) :: st) h else none := x_iald hc_18 dX3_holds_47 rfl
theorem x_18_48 {ls st : List Value} {h : Hp} {a0 : Int32} {a1 : Int32} {a2 : Int32} : ex 18 48 ls (.int a2 :: .int a1 :: .int a0 :: st) h = if st.length ≤ 4 then gC (ex 19 0 [.int a0, .int a1, .int a2] [] h) 18 51 ls st else none := x_callS (as := [.int a0, .int a1, .int a2]) hc_18 dX3_holds_48 rfl mr_3_36 rfl rfl rfl (by decide)
theorem x_18_51 {ls st : List Value} {h : Hp} {x : Int32} : ex 18 51 ls (.int x :: st) h = if x = 0 then ex 18 54 ls st h else ex 18 56 ls st h := x_if_ne hc_18 dX3_holds_51 rfl (by decide)
theorem x_18_54 {ls st : List Value} {h : Hp}  : ex 18 54 ls (st) h = ex 18 55 ls (.int (0) :: st) h := x_iconst hc_18 dX3_holds_54 rfl (by decide)
theorem x_18_55 {ls : List Value} {h : Hp} {v : Int32} : ex 18 55 ls [.int v] h = if v = 0 ∨ v = 1 then some (some (.int v), h) else none := x_zret hc_18 dX3_holds_55 rfl
theorem x_18_56 {ls st : List Value} {h : Hp}  : ex 18 56 ls (st) h = gN (ldI ls 3) 18 59 ls 3 (1) st h := x_iinc hc_18 dX3_holds_56 rfl (by decide) (by decide)
theorem x_18_59 {ls st : List Value} {h : Hp}  : ex 18 59 ls (st) h = ex 18 20 ls st h := x_goto hc_18 dX3_holds_59 (by decide)
theorem x_18_62 {ls st : List Value} {h : Hp}  : ex 18 62 ls (st) h = ex 18 63 ls (.int (1) :: st) h := x_iconst hc_18 dX3_holds_62 rfl (by decide)
theorem x_18_63 {ls : List Value} {h : Hp} {v : Int32} : ex 18 63 ls [.int v] h = if v = 0 ∨ v = 1 then some (some (.int v), h) else none := x_zret hc_18 dX3_holds_63 rfl
theorem x_19_0 {ls st : List Value} {h : Hp}  : ex 19 0 ls (st) h = gI (ldI ls 1) 19 1 ls st h := x_iload_n hc_19 dX3_isSo_0 rfl rfl
theorem x_19_1 {ls st : List Value} {h : Hp} {x : Int32} : ex 19 1 ls (.int x :: st) h = if x = 60 then ex 19 28 ls st h else if x = 62 then ex 19 39 ls st h else ex 19 50 ls st h := by
  rw [x_lkp hc_19 dX3_isSo_1 (by decide)]
  by_cases h0 : x = 60
  · subst h0; rfl
  by_cases h1 : x = 62
  · subst h1; rfl
  rw [lv_osw h0 (by decide), lv_osw h1 (by decide), if_neg h0, if_neg h1]
  rfl
theorem x_19_28 {ls st : List Value} {h : Hp}  : ex 19 28 ls (st) h = gI (ldI ls 0) 19 29 ls st h := x_iload_n hc_19 dX3_isSo_28 rfl rfl
theorem x_19_29 {ls st : List Value} {h : Hp}  : ex 19 29 ls (st) h = gI (ldI ls 2) 19 30 ls st h := x_iload_n hc_19 dX3_isSo_29 rfl rfl
theorem x_19_30 {ls st : List Value} {h : Hp} {x z : Int32} : ex 19 30 ls (.int z :: .int x :: st) h = if x < z then ex 19 33 ls st h else ex 19 37 ls st h := x_icmp_ge hc_19 dX3_isSo_30 rfl (by decide)
theorem x_19_33 {ls st : List Value} {h : Hp}  : ex 19 33 ls (st) h = ex 19 34 ls (.int (1) :: st) h := x_iconst hc_19 dX3_isSo_33 rfl (by decide)
theorem x_19_34 {ls st : List Value} {h : Hp}  : ex 19 34 ls (st) h = ex 19 38 ls st h := x_goto hc_19 dX3_isSo_34 (by decide)
theorem x_19_37 {ls st : List Value} {h : Hp}  : ex 19 37 ls (st) h = ex 19 38 ls (.int (0) :: st) h := x_iconst hc_19 dX3_isSo_37 rfl (by decide)
theorem x_19_38 {ls : List Value} {h : Hp} {v : Int32} : ex 19 38 ls [.int v] h = if v = 0 ∨ v = 1 then some (some (.int v), h) else none := x_zret hc_19 dX3_isSo_38 rfl
theorem x_19_39 {ls st : List Value} {h : Hp}  : ex 19 39 ls (st) h = gI (ldI ls 0) 19 40 ls st h := x_iload_n hc_19 dX3_isSo_39 rfl rfl
theorem x_19_40 {ls st : List Value} {h : Hp}  : ex 19 40 ls (st) h = gI (ldI ls 2) 19 41 ls st h := x_iload_n hc_19 dX3_isSo_40 rfl rfl
theorem x_19_41 {ls st : List Value} {h : Hp} {x z : Int32} : ex 19 41 ls (.int z :: .int x :: st) h = if z < x then ex 19 44 ls st h else ex 19 48 ls st h := x_icmp_le hc_19 dX3_isSo_41 rfl (by decide)
theorem x_19_44 {ls st : List Value} {h : Hp}  : ex 19 44 ls (st) h = ex 19 45 ls (.int (1) :: st) h := x_iconst hc_19 dX3_isSo_44 rfl (by decide)
theorem x_19_45 {ls st : List Value} {h : Hp}  : ex 19 45 ls (st) h = ex 19 49 ls st h := x_goto hc_19 dX3_isSo_45 (by decide)
theorem x_19_48 {ls st : List Value} {h : Hp}  : ex 19 48 ls (st) h = ex 19 49 ls (.int (0) :: st) h := x_iconst hc_19 dX3_isSo_48 rfl (by decide)
theorem x_19_49 {ls : List Value} {h : Hp} {v : Int32} : ex 19 49 ls [.int v] h = if v = 0 ∨ v = 1 then some (some (.int v), h) else none := x_zret hc_19 dX3_isSo_49 rfl
theorem x_19_50 {ls st : List Value} {h : Hp}  : ex 19 50 ls (st) h = gI (ldI ls 0) 19 51 ls st h := x_iload_n hc_19 dX3_isSo_50 rfl rfl
theorem x_19_51 {ls st : List Value} {h : Hp}  : ex 19 51 ls (st) h = gI (ldI ls 2) 19 52 ls st h := x_iload_n hc_19 dX3_isSo_51 rfl rfl
theorem x_19_52 {ls st : List Value} {h : Hp} {x z : Int32} : ex 19 52 ls (.int z :: .int x :: st) h = if x = z then ex 19 55 ls st h else ex 19 59 ls st h := x_icmp_ne hc_19 dX3_isSo_52 rfl (by decide)
theorem x_19_55 {ls st : List Value} {h : Hp}  : ex 19 55 ls (st) h = ex 19 56 ls (.int (1) :: st) h := x_iconst hc_19 dX3_isSo_55 rfl (by decide)
theorem x_19_56 {ls st : List Value} {h : Hp}  : ex 19 56 ls (st) h = ex 19 60 ls st h := x_goto hc_19 dX3_isSo_56 (by decide)
theorem x_19_59 {ls st : List Value} {h : Hp}  : ex 19 59 ls (st) h = ex 19 60 ls (.int (0) :: st) h := x_iconst hc_19 dX3_isSo_59 rfl (by decide)
theorem x_19_60 {ls : List Value} {h : Hp} {v : Int32} : ex 19 60 ls [.int v] h = if v = 0 ∨ v = 1 then some (some (.int v), h) else none := x_zret hc_19 dX3_isSo_60 rfl
theorem x_20_0 {ls st : List Value} {h : Hp}  : ex 20 0 ls (st) h = ex 20 3 ls (.int (150) :: st) h := x_sipush hc_20 dX4_closeGaps_0 rfl (by decide)
theorem x_20_3 {ls st : List Value} {h : Hp} {x : Int32} : ex 20 3 ls (.int x :: st) h = ex 20 4 (ls.set 1 (.int x)) st h := x_istore_n hc_20 dX4_closeGaps_3 rfl rfl (by decide)
theorem x_20_4 {ls st : List Value} {h : Hp}  : ex 20 4 ls (st) h = ex 20 5 ls (.int (0) :: st) h := x_iconst hc_20 dX4_closeGaps_4 rfl (by decide)
theorem x_20_5 {ls st : List Value} {h : Hp} {x : Int32} : ex 20 5 ls (.int x :: st) h = ex 20 6 (ls.set 2 (.int x)) st h := x_istore_n hc_20 dX4_closeGaps_5 rfl rfl (by decide)
theorem x_20_6 {ls st : List Value} {h : Hp}  : ex 20 6 ls (st) h = gI (ldI ls 2) 20 7 ls st h := x_iload_n hc_20 dX4_closeGaps_6 rfl rfl
theorem x_20_7 {ls st : List Value} {h : Hp}  : ex 20 7 ls (st) h = ex 20 9 ls (.int (48) :: st) h := x_bipush hc_20 dX4_closeGaps_7 rfl (by decide)
theorem x_20_9 {ls st : List Value} {h : Hp} {x z : Int32} : ex 20 9 ls (.int z :: .int x :: st) h = if x < z then ex 20 12 ls st h else ex 20 41 ls st h := x_icmp_ge hc_20 dX4_closeGaps_9 rfl (by decide)
theorem x_20_12 {ls st : List Value} {h : Hp}  : ex 20 12 ls (st) h = gA (ldA ls 0) 20 13 ls st h := x_aload_n hc_20 dX4_closeGaps_12 rfl rfl
theorem x_20_13 {ls st : List Value} {h : Hp} {k : Nat} : ex 20 13 ls (.ref k :: st) h = if kd k = 4 then ex 20 16 ls (vl h k 0 :: st) h else none := x_getf hc_20 dX4_closeGaps_13 rfl fr_4_9
theorem x_20_16 {ls st : List Value} {h : Hp}  : ex 20 16 ls (st) h = gI (ldI ls 2) 20 17 ls st h := x_iload_n hc_20 dX4_closeGaps_16 rfl rfl
theorem x_20_17 {ls st : List Value} {h : Hp} {k : Nat} {x : Int32} : ex 20 17 ls (.int x :: .ref k :: st) h = if kd k = 9 ∧ x.toNatClampNeg < ln k ∧ 0 ≤ x then ex 20 18 ls (.int (h k x.toNatClampNeg) :: st) h else none := x_iald hc_20 dX4_closeGaps_17 rfl
theorem x_20_18 {ls st : List Value} {h : Hp}  : ex 20 18 ls (st) h = ex 20 21 ls (.int (-9999) :: st) h := x_sipush hc_20 dX4_closeGaps_18 rfl (by decide)
theorem x_20_21 {ls st : List Value} {h : Hp} {x z : Int32} : ex 20 21 ls (.int z :: .int x :: st) h = if x = z then ex 20 24 ls st h else ex 20 28 ls st h := x_icmp_ne hc_20 dX4_closeGaps_21 rfl (by decide)
theorem x_20_24 {ls st : List Value} {h : Hp}  : ex 20 24 ls (st) h = gI (ldI ls 1) 20 25 ls st h := x_iload_n hc_20 dX4_closeGaps_24 rfl rfl
theorem x_20_25 {ls st : List Value} {h : Hp}  : ex 20 25 ls (st) h = ex 20 34 ls st h := x_goto hc_20 dX4_closeGaps_25 (by decide)
theorem x_20_28 {ls st : List Value} {h : Hp}  : ex 20 28 ls (st) h = gA (ldA ls 0) 20 29 ls st h := x_aload_n hc_20 dX4_closeGaps_28 rfl rfl
theorem x_20_29 {ls st : List Value} {h : Hp} {k : Nat} : ex 20 29 ls (.ref k :: st) h = if kd k = 4 then ex 20 32 ls (vl h k 0 :: st) h else none := x_getf hc_20 dX4_closeGaps_29 rfl fr_4_9
theorem x_20_32 {ls st : List Value} {h : Hp}  : ex 20 32 ls (st) h = gI (ldI ls 2) 20 33 ls st h := x_iload_n hc_20 dX4_closeGaps_32 rfl rfl
theorem x_20_33 {ls st : List Value} {h : Hp} {k : Nat} {x : Int32} : ex 20 33 ls (.int x :: .ref k :: st) h = if kd k = 9 ∧ x.toNatClampNeg < ln k ∧ 0 ≤ x then ex 20 34 ls (.int (h k x.toNatClampNeg) :: st) h else none := x_iald hc_20 dX4_closeGaps_33 rfl
theorem x_20_34 {ls st : List Value} {h : Hp} {x : Int32} : ex 20 34 ls (.int x :: st) h = ex 20 35 (ls.set 1 (.int x)) st h := x_istore_n hc_20 dX4_closeGaps_34 rfl rfl (by decide)
theorem x_20_35 {ls st : List Value} {h : Hp}  : ex 20 35 ls (st) h = gN (ldI ls 2) 20 38 ls 2 (1) st h := x_iinc hc_20 dX4_closeGaps_35 rfl (by decide) (by decide)
theorem x_20_38 {ls st : List Value} {h : Hp}  : ex 20 38 ls (st) h = ex 20 6 ls st h := x_goto hc_20 dX4_closeGaps_38 (by decide)
theorem x_20_41 {ls st : List Value} {h : Hp}  : ex 20 41 ls (st) h = ex 20 42 ls (.int (0) :: st) h := x_iconst hc_20 dX4_closeGaps_41 rfl (by decide)
theorem x_20_42 {ls st : List Value} {h : Hp} {x : Int32} : ex 20 42 ls (.int x :: st) h = ex 20 43 (ls.set 2 (.int x)) st h := x_istore_n hc_20 dX4_closeGaps_42 rfl rfl (by decide)
theorem x_20_43 {ls st : List Value} {h : Hp}  : ex 20 43 ls (st) h = gI (ldI ls 2) 20 44 ls st h := x_iload_n hc_20 dX4_closeGaps_43 rfl rfl
theorem x_20_44 {ls st : List Value} {h : Hp}  : ex 20 44 ls (st) h = ex 20 46 ls (.int (48) :: st) h := x_bipush hc_20 dX4_closeGaps_44 rfl (by decide)
theorem x_20_46 {ls st : List Value} {h : Hp} {x z : Int32} : ex 20 46 ls (.int z :: .int x :: st) h = if x < z then ex 20 49 ls st h else ex 20 85 ls st h := x_icmp_ge hc_20 dX4_closeGaps_46 rfl (by decide)
theorem x_20_49 {ls st : List Value} {h : Hp}  : ex 20 49 ls (st) h = gA (ldA ls 0) 20 50 ls st h := x_aload_n hc_20 dX4_closeGaps_49 rfl rfl
theorem x_20_50 {ls st : List Value} {h : Hp} {k : Nat} : ex 20 50 ls (.ref k :: st) h = if kd k = 4 then ex 20 53 ls (vl h k 0 :: st) h else none := x_getf hc_20 dX4_closeGaps_50 rfl fr_4_9
theorem x_20_53 {ls st : List Value} {h : Hp}  : ex 20 53 ls (st) h = gI (ldI ls 2) 20 54 ls st h := x_iload_n hc_20 dX4_closeGaps_53 rfl rfl
theorem x_20_54 {ls st : List Value} {h : Hp} {k : Nat} {x : Int32} : ex 20 54 ls (.int x :: .ref k :: st) h = if kd k = 9 ∧ x.toNatClampNeg < ln k ∧ 0 ≤ x then ex 20 55 ls (.int (h k x.toNatClampNeg) :: st) h else none := x_iald hc_20 dX4_closeGaps_54 rfl
theorem x_20_55 {ls st : List Value} {h : Hp}  : ex 20 55 ls (st) h = ex 20 58 ls (.int (-9999) :: st) h := x_sipush hc_20 dX4_closeGaps_55 rfl (by decide)
theorem x_20_58 {ls st : List Value} {h : Hp} {x z : Int32} : ex 20 58 ls (.int z :: .int x :: st) h = if x = z then ex 20 61 ls st h else ex 20 65 ls st h := x_icmp_ne hc_20 dX4_closeGaps_58 rfl (by decide)
theorem x_20_61 {ls st : List Value} {h : Hp}  : ex 20 61 ls (st) h = gI (ldI ls 1) 20 62 ls st h := x_iload_n hc_20 dX4_closeGaps_61 rfl rfl
theorem x_20_62 {ls st : List Value} {h : Hp}  : ex 20 62 ls (st) h = ex 20 71 ls st h := x_goto hc_20 dX4_closeGaps_62 (by decide)
theorem x_20_65 {ls st : List Value} {h : Hp}  : ex 20 65 ls (st) h = gA (ldA ls 0) 20 66 ls st h := x_aload_n hc_20 dX4_closeGaps_65 rfl rfl
theorem x_20_66 {ls st : List Value} {h : Hp} {k : Nat} : ex 20 66 ls (.ref k :: st) h = if kd k = 4 then ex 20 69 ls (vl h k 0 :: st) h else none := x_getf hc_20 dX4_closeGaps_66 rfl fr_4_9
theorem x_20_69 {ls st : List Value} {h : Hp}  : ex 20 69 ls (st) h = gI (ldI ls 2) 20 70 ls st h := x_iload_n hc_20 dX4_closeGaps_69 rfl rfl
theorem x_20_70 {ls st : List Value} {h : Hp} {k : Nat} {x : Int32} : ex 20 70 ls (.int x :: .ref k :: st) h = if kd k = 9 ∧ x.toNatClampNeg < ln k ∧ 0 ≤ x then ex 20 71 ls (.int (h k x.toNatClampNeg) :: st) h else none := x_iald hc_20 dX4_closeGaps_70 rfl
theorem x_20_71 {ls st : List Value} {h : Hp} {x : Int32} : ex 20 71 ls (.int x :: st) h = ex 20 72 (ls.set 1 (.int x)) st h := x_istore_n hc_20 dX4_closeGaps_71 rfl rfl (by decide)
theorem x_20_72 {ls st : List Value} {h : Hp}  : ex 20 72 ls (st) h = gA (ldA ls 0) 20 73 ls st h := x_aload_n hc_20 dX4_closeGaps_72 rfl rfl
theorem x_20_73 {ls st : List Value} {h : Hp} {k : Nat} : ex 20 73 ls (.ref k :: st) h = if kd k = 4 then ex 20 76 ls (vl h k 1 :: st) h else none := x_getf hc_20 dX4_closeGaps_73 rfl fr_4_15
theorem x_20_76 {ls st : List Value} {h : Hp}  : ex 20 76 ls (st) h = gI (ldI ls 2) 20 77 ls st h := x_iload_n hc_20 dX4_closeGaps_76 rfl rfl
theorem x_20_77 {ls st : List Value} {h : Hp}  : ex 20 77 ls (st) h = gI (ldI ls 1) 20 78 ls st h := x_iload_n hc_20 dX4_closeGaps_77 rfl rfl
theorem x_20_78 {ls st : List Value} {h : Hp} {k : Nat} {x u : Int32} : ex 20 78 ls (.int u :: .int x :: .ref k :: st) h = if kd k = 9 ∧ x.toNatClampNeg < ln k ∧ 0 ≤ x then ex 20 79 ls st (hu h k x.toNatClampNeg u) else none := x_iast hc_20 dX4_closeGaps_78 rfl
theorem x_20_79 {ls st : List Value} {h : Hp}  : ex 20 79 ls (st) h = gN (ldI ls 2) 20 82 ls 2 (1) st h := x_iinc hc_20 dX4_closeGaps_79 rfl (by decide) (by decide)
theorem x_20_82 {ls st : List Value} {h : Hp}  : ex 20 82 ls (st) h = ex 20 43 ls st h := x_goto hc_20 dX4_closeGaps_82 (by decide)
theorem x_20_85 {ls : List Value} {h : Hp} : ex 20 85 ls [] h = some (none, h) := x_vret hc_20 dX4_closeGaps_85 rfl
theorem x_21_0 {ls st : List Value} {h : Hp}  : ex 21 0 ls (st) h = gA (ldA ls 0) 21 1 ls st h := x_aload_n hc_21 dX4_weatherIn_0 rfl rfl
theorem x_21_1 {ls st : List Value} {h : Hp} {k : Nat} : ex 21 1 ls (.ref k :: st) h = if kd k = 4 then ex 21 4 ls (vl h k 1 :: st) h else none := x_getf hc_21 dX4_weatherIn_1 rfl fr_4_15
theorem x_21_4 {ls st : List Value} {h : Hp}  : ex 21 4 ls (st) h = gI (ldI ls 1) 21 5 ls st h := x_iload_n hc_21 dX4_weatherIn_4 rfl rfl
theorem x_21_5 {ls st : List Value} {h : Hp}  : ex 21 5 ls (st) h = ex 21 7 ls (.int (48) :: st) h := x_bipush hc_21 dX4_weatherIn_5 rfl (by decide)
theorem x_21_7 {ls st : List Value} {h : Hp} {a0 : Int32} {a1 : Int32} : ex 21 7 ls (.int a1 :: .int a0 :: st) h = if st.length ≤ 4 then gC (ex 147 0 [.int a0, .int a1, .null] [] h) 21 10 ls st else none := x_callS (as := [.int a0, .int a1]) hc_21 dX4_weatherIn_7 rfl mr_4_43 rfl rfl rfl (by decide)
theorem x_21_10 {ls st : List Value} {h : Hp} {k : Nat} {x : Int32} : ex 21 10 ls (.int x :: .ref k :: st) h = if kd k = 9 ∧ x.toNatClampNeg < ln k ∧ 0 ≤ x then ex 21 11 ls (.int (h k x.toNatClampNeg) :: st) h else none := x_iald hc_21 dX4_weatherIn_10 rfl
theorem x_21_11 {ls : List Value} {h : Hp} {v : Int32} : ex 21 11 ls [.int v] h = some (some (.int v), h) := x_iret hc_21 dX4_weatherIn_11 rfl
theorem x_22_0 {ls st : List Value} {h : Hp}  : ex 22 0 ls (st) h = gA (ldA ls 1) 22 1 ls st h := x_aload_n hc_22 dX4_bringsNow_0 rfl rfl
theorem x_22_1 {ls st : List Value} {h : Hp}  : ex 22 1 ls (st) h = gA (ldA ls 0) 22 2 ls st h := x_aload_n hc_22 dX4_bringsNow_1 rfl rfl
theorem x_22_2 {ls st : List Value} {h : Hp} {k : Nat} : ex 22 2 ls (.ref k :: st) h = if kd k = 4 then ex 22 5 ls (vl h k 5 :: st) h else none := x_getf hc_22 dX4_bringsNow_2 rfl fr_4_28
theorem x_22_5 {ls st : List Value} {h : Hp} {k : Nat} {a0 : Int32} : ex 22 5 ls (.int a0 :: .ref k :: st) h = if kd k = 0 ∧ st.length ≤ 4 then gC (ex 10 0 [.ref k, .int a0, .null, .null] [] h) 22 8 ls st else none := x_callV (as := [.int a0]) hc_22 dX4_bringsNow_5 rfl mr_4_49 rfl rfl rfl (by decide) (by decide)
theorem x_22_8 {ls st : List Value} {h : Hp} {x : Int32} : ex 22 8 ls (.int x :: st) h = ex 22 9 (ls.set 3 (.int x)) st h := x_istore_n hc_22 dX4_bringsNow_8 rfl rfl (by decide)
theorem x_22_9 {ls st : List Value} {h : Hp}  : ex 22 9 ls (st) h = ex 22 11 ls (.int (100) :: st) h := x_bipush hc_22 dX4_bringsNow_9 rfl (by decide)
theorem x_22_11 {ls st : List Value} {h : Hp}  : ex 22 11 ls (st) h = ex 22 12 ls (.int (5) :: st) h := x_iconst hc_22 dX4_bringsNow_11 rfl (by decide)
theorem x_22_12 {ls st : List Value} {h : Hp}  : ex 22 12 ls (st) h = gA (ldA ls 0) 22 13 ls st h := x_aload_n hc_22 dX4_bringsNow_12 rfl rfl
theorem x_22_13 {ls st : List Value} {h : Hp}  : ex 22 13 ls (st) h = gI (ldI ls 2) 22 14 ls st h := x_iload_n hc_22 dX4_bringsNow_13 rfl rfl
theorem x_22_14 {ls st : List Value} {h : Hp} {k : Nat} {a0 : Int32} : ex 22 14 ls (.int a0 :: .ref k :: st) h = if kd k = 4 ∧ st.length ≤ 4 then gC (ex 23 0 [.ref k, .int a0, .null, .null] [] h) 22 17 ls st else none := x_callV (as := [.int a0]) hc_22 dX4_bringsNow_14 rfl mr_4_55 rfl rfl rfl (by decide) (by decide)
theorem x_22_17 {ls st : List Value} {h : Hp} {a b : Int32} : ex 22 17 ls (.int b :: .int a :: st) h = ex 22 18 ls (.int (a * b) :: st) h := x_imul hc_22 dX4_bringsNow_17 rfl
theorem x_22_18 {ls st : List Value} {h : Hp} {a0 : Int32} {a1 : Int32} : ex 22 18 ls (.int a1 :: .int a0 :: st) h = if st.length ≤ 4 then gC (ex 148 0 [.int a0, .int a1] [] h) 22 21 ls st else none := x_callS (as := [.int a0, .int a1]) hc_22 dX4_bringsNow_18 rfl mr_4_58 rfl rfl rfl (by decide)
theorem x_22_21 {ls st : List Value} {h : Hp} {x : Int32} : ex 22 21 ls (.int x :: st) h = ex 22 23 (ls.set 4 (.int x)) st h := x_istore hc_22 dX4_bringsNow_21 rfl (by decide)
theorem x_22_23 {ls st : List Value} {h : Hp}  : ex 22 23 ls (st) h = gI (ldI ls 3) 22 24 ls st h := x_iload_n hc_22 dX4_bringsNow_23 rfl rfl
theorem x_22_24 {ls st : List Value} {h : Hp}  : ex 22 24 ls (st) h = gI (ldI ls 3) 22 25 ls st h := x_iload_n hc_22 dX4_bringsNow_24 rfl rfl
theorem x_22_25 {ls st : List Value} {h : Hp}  : ex 22 25 ls (st) h = gI (ldI ls 4) 22 27 ls st h := x_iload hc_22 dX4_bringsNow_25 rfl
theorem x_22_27 {ls st : List Value} {h : Hp} {a b : Int32} : ex 22 27 ls (.int b :: .int a :: st) h = ex 22 28 ls (.int (a * b) :: st) h := x_imul hc_22 dX4_bringsNow_27 rfl
theorem x_22_28 {ls st : List Value} {h : Hp}  : ex 22 28 ls (st) h = ex 22 30 ls (.int (100) :: st) h := x_bipush hc_22 dX4_bringsNow_28 rfl (by decide)
theorem x_22_30 {ls st : List Value} {h : Hp} {a b : Int32} : ex 22 30 ls (.int b :: .int a :: st) h = if b = 0 then none else ex 22 31 ls (.int (a / b) :: st) h := x_idiv hc_22 dX4_bringsNow_30 rfl
theorem x_22_31 {ls st : List Value} {h : Hp} {a b : Int32} : ex 22 31 ls (.int b :: .int a :: st) h = ex 22 32 ls (.int (a - b) :: st) h := x_isub hc_22 dX4_bringsNow_31 rfl
theorem x_22_32 {ls : List Value} {h : Hp} {v : Int32} : ex 22 32 ls [.int v] h = some (some (.int v), h) := x_iret hc_22 dX4_bringsNow_32 rfl
theorem x_23_0 {ls st : List Value} {h : Hp}  : ex 23 0 ls (st) h = ex 23 1 ls (.int (0) :: st) h := x_iconst hc_23 dX4_salesOfLatestHours_0 rfl (by decide)
theorem x_23_1 {ls st : List Value} {h : Hp} {x : Int32} : ex 23 1 ls (.int x :: st) h = ex 23 2 (ls.set 2 (.int x)) st h := x_istore_n hc_23 dX4_salesOfLatestHours_1 rfl rfl (by decide)
theorem x_23_2 {ls st : List Value} {h : Hp}  : ex 23 2 ls (st) h = ex 23 3 ls (.int (0) :: st) h := x_iconst hc_23 dX4_salesOfLatestHours_2 rfl (by decide)
theorem x_23_3 {ls st : List Value} {h : Hp} {x : Int32} : ex 23 3 ls (.int x :: st) h = ex 23 4 (ls.set 3 (.int x)) st h := x_istore_n hc_23 dX4_salesOfLatestHours_3 rfl rfl (by decide)
theorem x_23_4 {ls st : List Value} {h : Hp}  : ex 23 4 ls (st) h = gI (ldI ls 3) 23 5 ls st h := x_iload_n hc_23 dX4_salesOfLatestHours_4 rfl rfl
theorem x_23_5 {ls st : List Value} {h : Hp}  : ex 23 5 ls (st) h = ex 23 7 ls (.int (24) :: st) h := x_bipush hc_23 dX4_salesOfLatestHours_5 rfl (by decide)
theorem x_23_7 {ls st : List Value} {h : Hp} {x z : Int32} : ex 23 7 ls (.int z :: .int x :: st) h = if x < z then ex 23 10 ls st h else ex 23 42 ls st h := x_icmp_ge hc_23 dX4_salesOfLatestHours_7 rfl (by decide)
theorem x_23_10 {ls st : List Value} {h : Hp}  : ex 23 10 ls (st) h = gI (ldI ls 2) 23 11 ls st h := x_iload_n hc_23 dX4_salesOfLatestHours_10 rfl rfl
theorem x_23_11 {ls st : List Value} {h : Hp}  : ex 23 11 ls (st) h = gA (ldA ls 0) 23 12 ls st h := x_aload_n hc_23 dX4_salesOfLatestHours_11 rfl rfl
theorem x_23_12 {ls st : List Value} {h : Hp} {k : Nat} : ex 23 12 ls (.ref k :: st) h = if kd k = 4 then ex 23 15 ls (vl h k 2 :: st) h else none := x_getf hc_23 dX4_salesOfLatestHours_12 rfl fr_4_18
theorem x_23_15 {ls st : List Value} {h : Hp}  : ex 23 15 ls (st) h = gI (ldI ls 3) 23 16 ls st h := x_iload_n hc_23 dX4_salesOfLatestHours_15 rfl rfl
theorem x_23_16 {ls st : List Value} {h : Hp} {k : Nat} {x : Int32} : ex 23 16 ls (.int x :: .ref k :: st) h = if kd k = 9 ∧ x.toNatClampNeg < ln k ∧ 0 ≤ x then ex 23 17 ls (.int (h k x.toNatClampNeg) :: st) h else none := x_iald hc_23 dX4_salesOfLatestHours_16 rfl
theorem x_23_17 {ls st : List Value} {h : Hp}  : ex 23 17 ls (st) h = gI (ldI ls 1) 23 18 ls st h := x_iload_n hc_23 dX4_salesOfLatestHours_17 rfl rfl
theorem x_23_18 {ls st : List Value} {h : Hp}  : ex 23 18 ls (st) h = ex 23 20 ls (.int (24) :: st) h := x_bipush hc_23 dX4_salesOfLatestHours_18 rfl (by decide)
theorem x_23_20 {ls st : List Value} {h : Hp} {a b : Int32} : ex 23 20 ls (.int b :: .int a :: st) h = ex 23 21 ls (.int (a - b) :: st) h := x_isub hc_23 dX4_salesOfLatestHours_20 rfl
theorem x_23_21 {ls st : List Value} {h : Hp} {x z : Int32} : ex 23 21 ls (.int z :: .int x :: st) h = if z < x then ex 23 24 ls st h else ex 23 33 ls st h := x_icmp_le hc_23 dX4_salesOfLatestHours_21 rfl (by decide)
theorem x_23_24 {ls st : List Value} {h : Hp}  : ex 23 24 ls (st) h = gA (ldA ls 0) 23 25 ls st h := x_aload_n hc_23 dX4_salesOfLatestHours_24 rfl rfl
theorem x_23_25 {ls st : List Value} {h : Hp} {k : Nat} : ex 23 25 ls (.ref k :: st) h = if kd k = 4 then ex 23 28 ls (vl h k 3 :: st) h else none := x_getf hc_23 dX4_salesOfLatestHours_25 rfl fr_4_21
theorem x_23_28 {ls st : List Value} {h : Hp}  : ex 23 28 ls (st) h = gI (ldI ls 3) 23 29 ls st h := x_iload_n hc_23 dX4_salesOfLatestHours_28 rfl rfl
theorem x_23_29 {ls st : List Value} {h : Hp} {k : Nat} {x : Int32} : ex 23 29 ls (.int x :: .ref k :: st) h = if kd k = 9 ∧ x.toNatClampNeg < ln k ∧ 0 ≤ x then ex 23 30 ls (.int (h k x.toNatClampNeg) :: st) h else none := x_iald hc_23 dX4_salesOfLatestHours_29 rfl
theorem x_23_30 {ls st : List Value} {h : Hp}  : ex 23 30 ls (st) h = ex 23 34 ls st h := x_goto hc_23 dX4_salesOfLatestHours_30 (by decide)
theorem x_23_33 {ls st : List Value} {h : Hp}  : ex 23 33 ls (st) h = ex 23 34 ls (.int (0) :: st) h := x_iconst hc_23 dX4_salesOfLatestHours_33 rfl (by decide)
theorem x_23_34 {ls st : List Value} {h : Hp} {a b : Int32} : ex 23 34 ls (.int b :: .int a :: st) h = ex 23 35 ls (.int (a + b) :: st) h := x_iadd hc_23 dX4_salesOfLatestHours_34 rfl
theorem x_23_35 {ls st : List Value} {h : Hp} {x : Int32} : ex 23 35 ls (.int x :: st) h = ex 23 36 (ls.set 2 (.int x)) st h := x_istore_n hc_23 dX4_salesOfLatestHours_35 rfl rfl (by decide)
theorem x_23_36 {ls st : List Value} {h : Hp}  : ex 23 36 ls (st) h = gN (ldI ls 3) 23 39 ls 3 (1) st h := x_iinc hc_23 dX4_salesOfLatestHours_36 rfl (by decide) (by decide)
theorem x_23_39 {ls st : List Value} {h : Hp}  : ex 23 39 ls (st) h = ex 23 4 ls st h := x_goto hc_23 dX4_salesOfLatestHours_39 (by decide)
theorem x_23_42 {ls st : List Value} {h : Hp}  : ex 23 42 ls (st) h = gI (ldI ls 2) 23 43 ls st h := x_iload_n hc_23 dX4_salesOfLatestHours_42 rfl rfl
theorem x_23_43 {ls : List Value} {h : Hp} {v : Int32} : ex 23 43 ls [.int v] h = some (some (.int v), h) := x_iret hc_23 dX4_salesOfLatestHours_43 rfl
theorem x_24_0 {ls st : List Value} {h : Hp}  : ex 24 0 ls (st) h = gI (ldI ls 1) 24 1 ls st h := x_iload_n hc_24 dX4_noteSale_0 rfl rfl
theorem x_24_1 {ls st : List Value} {h : Hp}  : ex 24 1 ls (st) h = ex 24 3 ls (.int (24) :: st) h := x_bipush hc_24 dX4_noteSale_1 rfl (by decide)
theorem x_24_3 {ls st : List Value} {h : Hp} {a0 : Int32} {a1 : Int32} : ex 24 3 ls (.int a1 :: .int a0 :: st) h = if st.length ≤ 4 then gC (ex 147 0 [.int a0, .int a1, .null] [] h) 24 6 ls st else none := x_callS (as := [.int a0, .int a1]) hc_24 dX4_noteSale_3 rfl mr_4_43 rfl rfl rfl (by decide)
theorem x_24_6 {ls st : List Value} {h : Hp} {x : Int32} : ex 24 6 ls (.int x :: st) h = ex 24 7 (ls.set 2 (.int x)) st h := x_istore_n hc_24 dX4_noteSale_6 rfl rfl (by decide)
theorem x_24_7 {ls st : List Value} {h : Hp}  : ex 24 7 ls (st) h = gA (ldA ls 0) 24 8 ls st h := x_aload_n hc_24 dX4_noteSale_7 rfl rfl
theorem x_24_8 {ls st : List Value} {h : Hp} {k : Nat} : ex 24 8 ls (.ref k :: st) h = if kd k = 4 then ex 24 11 ls (vl h k 2 :: st) h else none := x_getf hc_24 dX4_noteSale_8 rfl fr_4_18
theorem x_24_11 {ls st : List Value} {h : Hp}  : ex 24 11 ls (st) h = gI (ldI ls 2) 24 12 ls st h := x_iload_n hc_24 dX4_noteSale_11 rfl rfl
theorem x_24_12 {ls st : List Value} {h : Hp} {k : Nat} {x : Int32} : ex 24 12 ls (.int x :: .ref k :: st) h = if kd k = 9 ∧ x.toNatClampNeg < ln k ∧ 0 ≤ x then ex 24 13 ls (.int (h k x.toNatClampNeg) :: st) h else none := x_iald hc_24 dX4_noteSale_12 rfl
theorem x_24_13 {ls st : List Value} {h : Hp}  : ex 24 13 ls (st) h = gI (ldI ls 1) 24 14 ls st h := x_iload_n hc_24 dX4_noteSale_13 rfl rfl
theorem x_24_14 {ls st : List Value} {h : Hp} {x z : Int32} : ex 24 14 ls (.int z :: .int x :: st) h = if x = z then ex 24 31 ls st h else ex 24 17 ls st h := x_icmp_eq hc_24 dX4_noteSale_14 rfl (by decide)
theorem x_24_17 {ls st : List Value} {h : Hp}  : ex 24 17 ls (st) h = gA (ldA ls 0) 24 18 ls st h := x_aload_n hc_24 dX4_noteSale_17 rfl rfl
theorem x_24_18 {ls st : List Value} {h : Hp} {k : Nat} : ex 24 18 ls (.ref k :: st) h = if kd k = 4 then ex 24 21 ls (vl h k 2 :: st) h else none := x_getf hc_24 dX4_noteSale_18 rfl fr_4_18
theorem x_24_21 {ls st : List Value} {h : Hp}  : ex 24 21 ls (st) h = gI (ldI ls 2) 24 22 ls st h := x_iload_n hc_24 dX4_noteSale_21 rfl rfl
theorem x_24_22 {ls st : List Value} {h : Hp}  : ex 24 22 ls (st) h = gI (ldI ls 1) 24 23 ls st h := x_iload_n hc_24 dX4_noteSale_22 rfl rfl
theorem x_24_23 {ls st : List Value} {h : Hp} {k : Nat} {x u : Int32} : ex 24 23 ls (.int u :: .int x :: .ref k :: st) h = if kd k = 9 ∧ x.toNatClampNeg < ln k ∧ 0 ≤ x then ex 24 24 ls st (hu h k x.toNatClampNeg u) else none := x_iast hc_24 dX4_noteSale_23 rfl
theorem x_24_24 {ls st : List Value} {h : Hp}  : ex 24 24 ls (st) h = gA (ldA ls 0) 24 25 ls st h := x_aload_n hc_24 dX4_noteSale_24 rfl rfl
theorem x_24_25 {ls st : List Value} {h : Hp} {k : Nat} : ex 24 25 ls (.ref k :: st) h = if kd k = 4 then ex 24 28 ls (vl h k 3 :: st) h else none := x_getf hc_24 dX4_noteSale_25 rfl fr_4_21
theorem x_24_28 {ls st : List Value} {h : Hp}  : ex 24 28 ls (st) h = gI (ldI ls 2) 24 29 ls st h := x_iload_n hc_24 dX4_noteSale_28 rfl rfl
theorem x_24_29 {ls st : List Value} {h : Hp}  : ex 24 29 ls (st) h = ex 24 30 ls (.int (0) :: st) h := x_iconst hc_24 dX4_noteSale_29 rfl (by decide)
theorem x_24_30 {ls st : List Value} {h : Hp} {k : Nat} {x u : Int32} : ex 24 30 ls (.int u :: .int x :: .ref k :: st) h = if kd k = 9 ∧ x.toNatClampNeg < ln k ∧ 0 ≤ x then ex 24 31 ls st (hu h k x.toNatClampNeg u) else none := x_iast hc_24 dX4_noteSale_30 rfl
theorem x_24_31 {ls st : List Value} {h : Hp}  : ex 24 31 ls (st) h = gA (ldA ls 0) 24 32 ls st h := x_aload_n hc_24 dX4_noteSale_31 rfl rfl
theorem x_24_32 {ls st : List Value} {h : Hp} {k : Nat} : ex 24 32 ls (.ref k :: st) h = if kd k = 4 then ex 24 35 ls (vl h k 3 :: st) h else none := x_getf hc_24 dX4_noteSale_32 rfl fr_4_21
theorem x_24_35 {ls st : List Value} {h : Hp}  : ex 24 35 ls (st) h = gI (ldI ls 2) 24 36 ls st h := x_iload_n hc_24 dX4_noteSale_35 rfl rfl
theorem x_24_36ii {ls st : List Value} {h : Hp} {u : Int32} {v : Int32} : ex 24 36 ls (.int u :: .int v :: st) h = ex 24 37 ls (.int u :: .int v :: .int u :: .int v :: st) h := x_dup2_ii hc_24 dX4_noteSale_36 rfl
theorem x_24_36ia {ls st : List Value} {h : Hp} {u : Int32} {v : Nat} : ex 24 36 ls (.int u :: .ref v :: st) h = ex 24 37 ls (.int u :: .ref v :: .int u :: .ref v :: st) h := x_dup2_ia hc_24 dX4_noteSale_36 rfl
theorem x_24_36ai {ls st : List Value} {h : Hp} {u : Nat} {v : Int32} : ex 24 36 ls (.ref u :: .int v :: st) h = ex 24 37 ls (.ref u :: .int v :: .ref u :: .int v :: st) h := x_dup2_ai hc_24 dX4_noteSale_36 rfl
theorem x_24_36aa {ls st : List Value} {h : Hp} {u : Nat} {v : Nat} : ex 24 36 ls (.ref u :: .ref v :: st) h = ex 24 37 ls (.ref u :: .ref v :: .ref u :: .ref v :: st) h := x_dup2_aa hc_24 dX4_noteSale_36 rfl
theorem x_24_37 {ls st : List Value} {h : Hp} {k : Nat} {x : Int32} : ex 24 37 ls (.int x :: .ref k :: st) h = if kd k = 9 ∧ x.toNatClampNeg < ln k ∧ 0 ≤ x then ex 24 38 ls (.int (h k x.toNatClampNeg) :: st) h else none := x_iald hc_24 dX4_noteSale_37 rfl
theorem x_24_38 {ls st : List Value} {h : Hp}  : ex 24 38 ls (st) h = ex 24 39 ls (.int (1) :: st) h := x_iconst hc_24 dX4_noteSale_38 rfl (by decide)
theorem x_24_39 {ls st : List Value} {h : Hp} {a b : Int32} : ex 24 39 ls (.int b :: .int a :: st) h = ex 24 40 ls (.int (a + b) :: st) h := x_iadd hc_24 dX4_noteSale_39 rfl
theorem x_24_40 {ls st : List Value} {h : Hp} {k : Nat} {x u : Int32} : ex 24 40 ls (.int u :: .int x :: .ref k :: st) h = if kd k = 9 ∧ x.toNatClampNeg < ln k ∧ 0 ≤ x then ex 24 41 ls st (hu h k x.toNatClampNeg u) else none := x_iast hc_24 dX4_noteSale_40 rfl
theorem x_24_41 {ls : List Value} {h : Hp} : ex 24 41 ls [] h = some (none, h) := x_vret hc_24 dX4_noteSale_41 rfl
theorem x_25_0 {ls st : List Value} {h : Hp}  : ex 25 0 ls (st) h = gA (ldA ls 0) 25 1 ls st h := x_aload_n hc_25 dX5_readRule_0 rfl rfl
theorem x_25_1 {ls st : List Value} {h : Hp}  : ex 25 1 ls (st) h = ex 25 2 ls (.int (0) :: st) h := x_iconst hc_25 dX5_readRule_1 rfl (by decide)
theorem x_25_2 {ls st : List Value} {h : Hp} {k : Nat} {x : Int32} : ex 25 2 ls (.int x :: .ref k :: st) h = if kd k = 5 then ex 25 5 ls st (hu h k 2 x) else none := x_putf hc_25 dX5_readRule_2 rfl fr_5_19 (by decide)
theorem x_25_5 {ls st : List Value} {h : Hp}  : ex 25 5 ls (st) h = gA (ldA ls 1) 25 6 ls st h := x_aload_n hc_25 dX5_readRule_5 rfl rfl
theorem x_25_6 {ls st : List Value} {h : Hp}  : ex 25 6 ls (st) h = ex 25 7 ls (.int (0) :: st) h := x_iconst hc_25 dX5_readRule_6 rfl (by decide)
theorem x_25_7 {ls st : List Value} {h : Hp} {k : Nat} {x : Int32} : ex 25 7 ls (.int x :: .ref k :: st) h = if kd k = 3 then ex 25 10 ls st (hu h k 5 x) else none := x_putf hc_25 dX5_readRule_7 rfl fr_5_22 (by decide)
theorem x_25_10 {ls st : List Value} {h : Hp}  : ex 25 10 ls (st) h = gA (ldA ls 0) 25 11 ls st h := x_aload_n hc_25 dX5_readRule_10 rfl rfl
theorem x_25_11 {ls st : List Value} {h : Hp}  : ex 25 11 ls (st) h = gA (ldA ls 1) 25 12 ls st h := x_aload_n hc_25 dX5_readRule_11 rfl rfl
theorem x_25_12 {ls st : List Value} {h : Hp} {k : Nat} {a0 : Nat} : ex 25 12 ls (.ref a0 :: .ref k :: st) h = if kd k = 5 ∧ st.length ≤ 4 then gC (ex 26 0 [.ref k, .ref a0] [] h) 25 15 ls st else none := x_callV (as := [.ref a0]) hc_25 dX5_readRule_12 rfl mr_5_27 rfl rfl rfl (by decide) (by decide)
theorem x_25_15 {ls st : List Value} {h : Hp} {x : Int32} : ex 25 15 ls (.int x :: st) h = if x = 0 then ex 25 18 ls st h else ex 25 23 ls st h := x_if_ne hc_25 dX5_readRule_15 rfl (by decide)
theorem x_25_18 {ls st : List Value} {h : Hp}  : ex 25 18 ls (st) h = gA (ldA ls 0) 25 19 ls st h := x_aload_n hc_25 dX5_readRule_18 rfl rfl
theorem x_25_19 {ls st : List Value} {h : Hp} {k : Nat} : ex 25 19 ls (.ref k :: st) h = if kd k = 5 then ex 25 22 ls (vl h k 2 :: st) h else none := x_getf hc_25 dX5_readRule_19 rfl fr_5_19
theorem x_25_22 {ls : List Value} {h : Hp} {v : Int32} : ex 25 22 ls [.int v] h = some (some (.int v), h) := x_iret hc_25 dX5_readRule_22 rfl
theorem x_25_23 {ls st : List Value} {h : Hp}  : ex 25 23 ls (st) h = ex 25 24 ls (.int (0) :: st) h := x_iconst hc_25 dX5_readRule_23 rfl (by decide)
theorem x_25_24 {ls st : List Value} {h : Hp} {x : Int32} : ex 25 24 ls (.int x :: st) h = ex 25 25 (ls.set 2 (.int x)) st h := x_istore_n hc_25 dX5_readRule_24 rfl rfl (by decide)
theorem x_25_25 {ls st : List Value} {h : Hp}  : ex 25 25 ls (st) h = gI (ldI ls 2) 25 26 ls st h := x_iload_n hc_25 dX5_readRule_25 rfl rfl
theorem x_25_26 {ls st : List Value} {h : Hp}  : ex 25 26 ls (st) h = ex 25 27 ls (.int (3) :: st) h := x_iconst hc_25 dX5_readRule_26 rfl (by decide)
theorem x_25_27 {ls st : List Value} {h : Hp} {x z : Int32} : ex 25 27 ls (.int z :: .int x :: st) h = if x < z then ex 25 30 ls st h else ex 25 78 ls st h := x_icmp_ge hc_25 dX5_readRule_27 rfl (by decide)
theorem x_25_30 {ls st : List Value} {h : Hp}  : ex 25 30 ls (st) h = gA (ldA ls 0) 25 31 ls st h := x_aload_n hc_25 dX5_readRule_30 rfl rfl
theorem x_25_31 {ls st : List Value} {h : Hp} {k : Nat} : ex 25 31 ls (.ref k :: st) h = if kd k = 5 then ex 25 34 ls (vl h k 2 :: st) h else none := x_getf hc_25 dX5_readRule_31 rfl fr_5_19
theorem x_25_34 {ls st : List Value} {h : Hp}  : ex 25 34 ls (st) h = gA (ldA ls 0) 25 35 ls st h := x_aload_n hc_25 dX5_readRule_34 rfl rfl
theorem x_25_35 {ls st : List Value} {h : Hp} {k : Nat} : ex 25 35 ls (.ref k :: st) h = if kd k = 5 then ex 25 38 ls (vl h k 1 :: st) h else none := x_getf hc_25 dX5_readRule_35 rfl fr_5_15
theorem x_25_38 {ls st : List Value} {h : Hp} {x z : Int32} : ex 25 38 ls (.int z :: .int x :: st) h = if x < z then ex 25 41 ls st h else ex 25 78 ls st h := x_icmp_ge hc_25 dX5_readRule_38 rfl (by decide)
theorem x_25_41 {ls st : List Value} {h : Hp}  : ex 25 41 ls (st) h = gA (ldA ls 0) 25 42 ls st h := x_aload_n hc_25 dX5_readRule_41 rfl rfl
theorem x_25_42 {ls st : List Value} {h : Hp}  : ex 25 42 ls (st) h = gI (ldI ls 2) 25 43 ls st h := x_iload_n hc_25 dX5_readRule_42 rfl rfl
theorem x_25_43 {ls st : List Value} {h : Hp} {x : Int32} : ex 25 43 ls (.int x :: st) h = if x = 0 then ex 25 46 ls st h else ex 25 51 ls st h := x_if_ne hc_25 dX5_readRule_43 rfl (by decide)
theorem x_25_46 {ls st : List Value} {h : Hp}  : ex 25 46 ls (st) h = ex 25 48 ls (.ref 702 :: st) h := x_ldcS (q := 2) hc_25 dX5_readRule_46 rfl (by decide +kernel) (by decide +kernel)
theorem x_25_48 {ls st : List Value} {h : Hp}  : ex 25 48 ls (st) h = ex 25 53 ls st h := x_goto hc_25 dX5_readRule_48 (by decide)
theorem x_25_51 {ls st : List Value} {h : Hp}  : ex 25 51 ls (st) h = ex 25 53 ls (.ref 703 :: st) h := x_ldcS (q := 3) hc_25 dX5_readRule_51 rfl (by decide +kernel) (by decide +kernel)
theorem x_25_53 {ls st : List Value} {h : Hp} {k : Nat} {a0 : Nat} : ex 25 53 ls (.ref a0 :: .ref k :: st) h = if kd k = 5 ∧ st.length ≤ 4 then gC (ex 28 0 [.ref k, .ref a0, .null] [] h) 25 56 ls st else none := x_callV (as := [.ref a0]) hc_25 dX5_readRule_53 rfl mr_5_35 rfl rfl rfl (by decide) (by decide)
theorem x_25_56 {ls st : List Value} {h : Hp} {x : Int32} : ex 25 56 ls (.int x :: st) h = if x = 0 then ex 25 67 ls st h else ex 25 59 ls st h := x_if_eq hc_25 dX5_readRule_56 rfl (by decide)
theorem x_25_59 {ls st : List Value} {h : Hp}  : ex 25 59 ls (st) h = gA (ldA ls 0) 25 60 ls st h := x_aload_n hc_25 dX5_readRule_59 rfl rfl
theorem x_25_60 {ls st : List Value} {h : Hp}  : ex 25 60 ls (st) h = gA (ldA ls 1) 25 61 ls st h := x_aload_n hc_25 dX5_readRule_60 rfl rfl
theorem x_25_61 {ls st : List Value} {h : Hp} {k : Nat} {a0 : Nat} : ex 25 61 ls (.ref a0 :: .ref k :: st) h = if kd k = 5 ∧ st.length ≤ 4 then gC (ex 31 0 [.ref k, .ref a0, .null, .null, .null, .null] [] h) 25 64 ls st else none := x_callV (as := [.ref a0]) hc_25 dX5_readRule_61 rfl mr_5_39 rfl rfl rfl (by decide) (by decide)
theorem x_25_64 {ls st : List Value} {h : Hp} {x : Int32} : ex 25 64 ls (.int x :: st) h = if x = 0 then ex 25 67 ls st h else ex 25 72 ls st h := x_if_ne hc_25 dX5_readRule_64 rfl (by decide)
theorem x_25_67 {ls st : List Value} {h : Hp}  : ex 25 67 ls (st) h = gA (ldA ls 0) 25 68 ls st h := x_aload_n hc_25 dX5_readRule_67 rfl rfl
theorem x_25_68 {ls st : List Value} {h : Hp} {k : Nat} : ex 25 68 ls (.ref k :: st) h = if kd k = 5 then ex 25 71 ls (vl h k 2 :: st) h else none := x_getf hc_25 dX5_readRule_68 rfl fr_5_19
theorem x_25_71 {ls : List Value} {h : Hp} {v : Int32} : ex 25 71 ls [.int v] h = some (some (.int v), h) := x_iret hc_25 dX5_readRule_71 rfl
theorem x_25_72 {ls st : List Value} {h : Hp}  : ex 25 72 ls (st) h = gN (ldI ls 2) 25 75 ls 2 (1) st h := x_iinc hc_25 dX5_readRule_72 rfl (by decide) (by decide)
theorem x_25_75 {ls st : List Value} {h : Hp}  : ex 25 75 ls (st) h = ex 25 25 ls st h := x_goto hc_25 dX5_readRule_75 (by decide)
theorem x_25_78 {ls st : List Value} {h : Hp}  : ex 25 78 ls (st) h = gA (ldA ls 0) 25 79 ls st h := x_aload_n hc_25 dX5_readRule_78 rfl rfl
theorem x_25_79 {ls st : List Value} {h : Hp} {k : Nat} : ex 25 79 ls (.ref k :: st) h = if kd k = 5 then ex 25 82 ls (vl h k 2 :: st) h else none := x_getf hc_25 dX5_readRule_79 rfl fr_5_19
theorem x_25_82 {ls st : List Value} {h : Hp}  : ex 25 82 ls (st) h = gA (ldA ls 0) 25 83 ls st h := x_aload_n hc_25 dX5_readRule_82 rfl rfl
theorem x_25_83 {ls st : List Value} {h : Hp} {k : Nat} : ex 25 83 ls (.ref k :: st) h = if kd k = 5 then ex 25 86 ls (vl h k 1 :: st) h else none := x_getf hc_25 dX5_readRule_83 rfl fr_5_15
theorem x_25_86 {ls st : List Value} {h : Hp} {x z : Int32} : ex 25 86 ls (.int z :: .int x :: st) h = if x < z then ex 25 89 ls st h else ex 25 96 ls st h := x_icmp_ge hc_25 dX5_readRule_86 rfl (by decide)
theorem x_25_89 {ls st : List Value} {h : Hp}  : ex 25 89 ls (st) h = gA (ldA ls 0) 25 90 ls st h := x_aload_n hc_25 dX5_readRule_89 rfl rfl
theorem x_25_90 {ls st : List Value} {h : Hp} {k : Nat} : ex 25 90 ls (.ref k :: st) h = if kd k = 5 then ex 25 93 ls (vl h k 2 :: st) h else none := x_getf hc_25 dX5_readRule_90 rfl fr_5_19
theorem x_25_93 {ls st : List Value} {h : Hp}  : ex 25 93 ls (st) h = ex 25 97 ls st h := x_goto hc_25 dX5_readRule_93 (by decide)
theorem x_25_96 {ls st : List Value} {h : Hp}  : ex 25 96 ls (st) h = ex 25 97 ls (.int (-1) :: st) h := x_iconst hc_25 dX5_readRule_96 rfl (by decide)
theorem x_25_97 {ls : List Value} {h : Hp} {v : Int32} : ex 25 97 ls [.int v] h = some (some (.int v), h) := x_iret hc_25 dX5_readRule_97 rfl
theorem x_26_0 {ls st : List Value} {h : Hp}  : ex 26 0 ls (st) h = gA (ldA ls 1) 26 1 ls st h := x_aload_n hc_26 dX5_takeHead_0 rfl rfl
theorem x_26_1 {ls st : List Value} {h : Hp}  : ex 26 1 ls (st) h = gA (ldA ls 0) 26 2 ls st h := x_aload_n hc_26 dX5_takeHead_1 rfl rfl
theorem x_26_2 {ls st : List Value} {h : Hp} {k : Nat}  : ex 26 2 ls (.ref k :: st) h = if kd k = 5 ∧ st.length ≤ 4 then gC (ex 27 0 [.ref k] [] h) 26 5 ls st else none := x_callV (as := []) hc_26 dX5_takeHead_2 rfl mr_5_42 rfl rfl rfl (by decide) (by decide)
theorem x_26_5 {ls st : List Value} {h : Hp}  : ex 26 5 ls (st) h = ex 26 7 ls (.int (118) :: st) h := x_bipush hc_26 dX5_takeHead_5 rfl (by decide)
theorem x_26_7 {ls st : List Value} {h : Hp} {x z : Int32} : ex 26 7 ls (.int z :: .int x :: st) h = if x = z then ex 26 10 ls st h else ex 26 14 ls st h := x_icmp_ne hc_26 dX5_takeHead_7 rfl (by decide)
theorem x_26_10 {ls st : List Value} {h : Hp}  : ex 26 10 ls (st) h = ex 26 11 ls (.int (1) :: st) h := x_iconst hc_26 dX5_takeHead_10 rfl (by decide)
theorem x_26_11 {ls st : List Value} {h : Hp}  : ex 26 11 ls (st) h = ex 26 15 ls st h := x_goto hc_26 dX5_takeHead_11 (by decide)
theorem x_26_14 {ls st : List Value} {h : Hp}  : ex 26 14 ls (st) h = ex 26 15 ls (.int (0) :: st) h := x_iconst hc_26 dX5_takeHead_14 rfl (by decide)
theorem x_26_15 {ls st : List Value} {h : Hp} {k : Nat} {x : Int32} : ex 26 15 ls (.int x :: .ref k :: st) h = if kd k = 3 ∧ (x = 0 ∨ x = 1) then ex 26 18 ls st (hu h k 3 x) else none := x_putz hc_26 dX5_takeHead_15 rfl fr_5_46 (by decide)
theorem x_26_18 {ls st : List Value} {h : Hp}  : ex 26 18 ls (st) h = gA (ldA ls 0) 26 19 ls st h := x_aload_n hc_26 dX5_takeHead_18 rfl rfl
theorem x_26_19 {ls st : List Value} {h : Hp}  : ex 26 19 ls (st) h = gA (ldA ls 1) 26 20 ls st h := x_aload_n hc_26 dX5_takeHead_19 rfl rfl
theorem x_26_20 {ls st : List Value} {h : Hp} {k : Nat} : ex 26 20 ls (.ref k :: st) h = if kd k = 3 then ex 26 23 ls (vl h k 3 :: st) h else none := x_getf hc_26 dX5_takeHead_20 rfl fr_5_46
theorem x_26_23 {ls st : List Value} {h : Hp} {x : Int32} : ex 26 23 ls (.int x :: st) h = if x = 0 then ex 26 31 ls st h else ex 26 26 ls st h := x_if_eq hc_26 dX5_takeHead_23 rfl (by decide)
theorem x_26_26 {ls st : List Value} {h : Hp}  : ex 26 26 ls (st) h = ex 26 28 ls (.ref 700 :: st) h := x_ldcS (q := 0) hc_26 dX5_takeHead_26 rfl (by decide +kernel) (by decide +kernel)
theorem x_26_28 {ls st : List Value} {h : Hp}  : ex 26 28 ls (st) h = ex 26 33 ls st h := x_goto hc_26 dX5_takeHead_28 (by decide)
theorem x_26_31 {ls st : List Value} {h : Hp}  : ex 26 31 ls (st) h = ex 26 33 ls (.ref 701 :: st) h := x_ldcS (q := 1) hc_26 dX5_takeHead_31 rfl (by decide +kernel) (by decide +kernel)
theorem x_26_33 {ls st : List Value} {h : Hp} {k : Nat} {a0 : Nat} : ex 26 33 ls (.ref a0 :: .ref k :: st) h = if kd k = 5 ∧ st.length ≤ 4 then gC (ex 28 0 [.ref k, .ref a0, .null] [] h) 26 36 ls st else none := x_callV (as := [.ref a0]) hc_26 dX5_takeHead_33 rfl mr_5_35 rfl rfl rfl (by decide) (by decide)
theorem x_26_36 {ls st : List Value} {h : Hp} {x : Int32} : ex 26 36 ls (.int x :: st) h = if x = 0 then ex 26 39 ls st h else ex 26 41 ls st h := x_if_ne hc_26 dX5_takeHead_36 rfl (by decide)
theorem x_26_39 {ls st : List Value} {h : Hp}  : ex 26 39 ls (st) h = ex 26 40 ls (.int (0) :: st) h := x_iconst hc_26 dX5_takeHead_39 rfl (by decide)
theorem x_26_40 {ls : List Value} {h : Hp} {v : Int32} : ex 26 40 ls [.int v] h = if v = 0 ∨ v = 1 then some (some (.int v), h) else none := x_zret hc_26 dX5_takeHead_40 rfl
theorem x_26_41 {ls st : List Value} {h : Hp}  : ex 26 41 ls (st) h = gA (ldA ls 1) 26 42 ls st h := x_aload_n hc_26 dX5_takeHead_41 rfl rfl
theorem x_26_42 {ls st : List Value} {h : Hp}  : ex 26 42 ls (st) h = gA (ldA ls 0) 26 43 ls st h := x_aload_n hc_26 dX5_takeHead_42 rfl rfl
theorem x_26_43 {ls st : List Value} {h : Hp} {k : Nat}  : ex 26 43 ls (.ref k :: st) h = if kd k = 5 ∧ st.length ≤ 4 then gC (ex 29 0 [.ref k, .null, .null] [] h) 26 46 ls st else none := x_callV (as := []) hc_26 dX5_takeHead_43 rfl mr_5_54 rfl rfl rfl (by decide) (by decide)
theorem x_26_46 {ls st : List Value} {h : Hp} {k : Nat} {x : Int32} : ex 26 46 ls (.int x :: .ref k :: st) h = if kd k = 3 then ex 26 49 ls st (hu h k 4 x) else none := x_putf hc_26 dX5_takeHead_46 rfl fr_5_57 (by decide)
theorem x_26_49 {ls st : List Value} {h : Hp}  : ex 26 49 ls (st) h = gA (ldA ls 1) 26 50 ls st h := x_aload_n hc_26 dX5_takeHead_49 rfl rfl
theorem x_26_50 {ls st : List Value} {h : Hp} {k : Nat} : ex 26 50 ls (.ref k :: st) h = if kd k = 3 then ex 26 53 ls (vl h k 4 :: st) h else none := x_getf hc_26 dX5_takeHead_50 rfl fr_5_57
theorem x_26_53 {ls st : List Value} {h : Hp}  : ex 26 53 ls (st) h = ex 26 54 ls (.int (-1) :: st) h := x_iconst hc_26 dX5_takeHead_53 rfl (by decide)
theorem x_26_54 {ls st : List Value} {h : Hp} {x z : Int32} : ex 26 54 ls (.int z :: .int x :: st) h = if x = z then ex 26 61 ls st h else ex 26 57 ls st h := x_icmp_eq hc_26 dX5_takeHead_54 rfl (by decide)
theorem x_26_57 {ls st : List Value} {h : Hp}  : ex 26 57 ls (st) h = ex 26 58 ls (.int (1) :: st) h := x_iconst hc_26 dX5_takeHead_57 rfl (by decide)
theorem x_26_58 {ls st : List Value} {h : Hp}  : ex 26 58 ls (st) h = ex 26 62 ls st h := x_goto hc_26 dX5_takeHead_58 (by decide)
theorem x_26_61 {ls st : List Value} {h : Hp}  : ex 26 61 ls (st) h = ex 26 62 ls (.int (0) :: st) h := x_iconst hc_26 dX5_takeHead_61 rfl (by decide)
theorem x_26_62 {ls : List Value} {h : Hp} {v : Int32} : ex 26 62 ls [.int v] h = if v = 0 ∨ v = 1 then some (some (.int v), h) else none := x_zret hc_26 dX5_takeHead_62 rfl
theorem x_27_0 {ls st : List Value} {h : Hp}  : ex 27 0 ls (st) h = gA (ldA ls 0) 27 1 ls st h := x_aload_n hc_27 dX5_nextByte_0 rfl rfl
theorem x_27_1 {ls st : List Value} {h : Hp} {k : Nat} : ex 27 1 ls (.ref k :: st) h = if kd k = 5 then ex 27 4 ls (vl h k 2 :: st) h else none := x_getf hc_27 dX5_nextByte_1 rfl fr_5_19
theorem x_27_4 {ls st : List Value} {h : Hp}  : ex 27 4 ls (st) h = gA (ldA ls 0) 27 5 ls st h := x_aload_n hc_27 dX5_nextByte_4 rfl rfl
theorem x_27_5 {ls st : List Value} {h : Hp} {k : Nat} : ex 27 5 ls (.ref k :: st) h = if kd k = 5 then ex 27 8 ls (vl h k 1 :: st) h else none := x_getf hc_27 dX5_nextByte_5 rfl fr_5_15
theorem x_27_8 {ls st : List Value} {h : Hp} {x z : Int32} : ex 27 8 ls (.int z :: .int x :: st) h = if x < z then ex 27 11 ls st h else ex 27 23 ls st h := x_icmp_ge hc_27 dX5_nextByte_8 rfl (by decide)
theorem x_27_11 {ls st : List Value} {h : Hp}  : ex 27 11 ls (st) h = gA (ldA ls 0) 27 12 ls st h := x_aload_n hc_27 dX5_nextByte_11 rfl rfl
theorem x_27_12 {ls st : List Value} {h : Hp} {k : Nat} : ex 27 12 ls (.ref k :: st) h = if kd k = 5 then ex 27 15 ls (vl h k 0 :: st) h else none := x_getf hc_27 dX5_nextByte_12 rfl fr_5_11
theorem x_27_15 {ls st : List Value} {h : Hp}  : ex 27 15 ls (st) h = gA (ldA ls 0) 27 16 ls st h := x_aload_n hc_27 dX5_nextByte_15 rfl rfl
theorem x_27_16 {ls st : List Value} {h : Hp} {k : Nat} : ex 27 16 ls (.ref k :: st) h = if kd k = 5 then ex 27 19 ls (vl h k 2 :: st) h else none := x_getf hc_27 dX5_nextByte_16 rfl fr_5_19
theorem x_27_19 {ls st : List Value} {h : Hp} {k : Nat} {x : Int32} : ex 27 19 ls (.int x :: .ref k :: st) h = if kd k = 9 ∧ x.toNatClampNeg < ln k ∧ 0 ≤ x then ex 27 20 ls (.int (h k x.toNatClampNeg) :: st) h else none := x_iald hc_27 dX5_nextByte_19 rfl
theorem x_27_20 {ls st : List Value} {h : Hp}  : ex 27 20 ls (st) h = ex 27 24 ls st h := x_goto hc_27 dX5_nextByte_20 (by decide)
theorem x_27_23 {ls st : List Value} {h : Hp}  : ex 27 23 ls (st) h = ex 27 24 ls (.int (-1) :: st) h := x_iconst hc_27 dX5_nextByte_23 rfl (by decide)
theorem x_27_24 {ls : List Value} {h : Hp} {v : Int32} : ex 27 24 ls [.int v] h = some (some (.int v), h) := x_iret hc_27 dX5_nextByte_24 rfl
theorem x_28_0 {ls st : List Value} {h : Hp}  : ex 28 0 ls (st) h = ex 28 1 ls (.int (0) :: st) h := x_iconst hc_28 dX5_takeWord_0 rfl (by decide)
theorem x_28_1 {ls st : List Value} {h : Hp} {x : Int32} : ex 28 1 ls (.int x :: st) h = ex 28 2 (ls.set 2 (.int x)) st h := x_istore_n hc_28 dX5_takeWord_1 rfl rfl (by decide)
theorem x_28_2 {ls st : List Value} {h : Hp}  : ex 28 2 ls (st) h = gI (ldI ls 2) 28 3 ls st h := x_iload_n hc_28 dX5_takeWord_2 rfl rfl
theorem x_28_3 {ls st : List Value} {h : Hp}  : ex 28 3 ls (st) h = gA (ldA ls 1) 28 4 ls st h := x_aload_n hc_28 dX5_takeWord_3 rfl rfl
theorem x_28_4 {ls st : List Value} {h : Hp} {k : Nat} : ex 28 4 ls (.ref k :: st) h = if (700 ≤ k ∧ k < 709) ∧ st.length ≤ 4 then ex 28 7 ls (.int (nI (sLen.getD (k - 700) 0)) :: st) h else none := x_len hc_28 dX5_takeWord_4 rfl mn_5_77 pr_5_77 (by decide)
theorem x_28_7 {ls st : List Value} {h : Hp} {x z : Int32} : ex 28 7 ls (.int z :: .int x :: st) h = if x < z then ex 28 10 ls st h else ex 28 40 ls st h := x_icmp_ge hc_28 dX5_takeWord_7 rfl (by decide)
theorem x_28_10 {ls st : List Value} {h : Hp}  : ex 28 10 ls (st) h = gA (ldA ls 0) 28 11 ls st h := x_aload_n hc_28 dX5_takeWord_10 rfl rfl
theorem x_28_11 {ls st : List Value} {h : Hp} {k : Nat}  : ex 28 11 ls (.ref k :: st) h = if kd k = 5 ∧ st.length ≤ 4 then gC (ex 27 0 [.ref k] [] h) 28 14 ls st else none := x_callV (as := []) hc_28 dX5_takeWord_11 rfl mr_5_42 rfl rfl rfl (by decide) (by decide)
theorem x_28_14 {ls st : List Value} {h : Hp}  : ex 28 14 ls (st) h = gA (ldA ls 1) 28 15 ls st h := x_aload_n hc_28 dX5_takeWord_14 rfl rfl
theorem x_28_15 {ls st : List Value} {h : Hp}  : ex 28 15 ls (st) h = gI (ldI ls 2) 28 16 ls st h := x_iload_n hc_28 dX5_takeWord_15 rfl rfl
theorem x_28_16 {ls st : List Value} {h : Hp} {k : Nat} {x : Int32} : ex 28 16 ls (.int x :: .ref k :: st) h = if (700 ≤ k ∧ k < 709) ∧ (x.toNatClampNeg < sLen.getD (k - 700) 0 ∧ 0 ≤ x) ∧ st.length ≤ 4 then ex 28 19 ls (.int (sCh (k - 700) x.toNatClampNeg) :: st) h else none := x_chr hc_28 dX5_takeWord_16 rfl mn_5_81 pr_5_81 (by decide)
theorem x_28_19 {ls st : List Value} {h : Hp} {x z : Int32} : ex 28 19 ls (.int z :: .int x :: st) h = if x = z then ex 28 24 ls st h else ex 28 22 ls st h := x_icmp_eq hc_28 dX5_takeWord_19 rfl (by decide)
theorem x_28_22 {ls st : List Value} {h : Hp}  : ex 28 22 ls (st) h = ex 28 23 ls (.int (0) :: st) h := x_iconst hc_28 dX5_takeWord_22 rfl (by decide)
theorem x_28_23 {ls : List Value} {h : Hp} {v : Int32} : ex 28 23 ls [.int v] h = if v = 0 ∨ v = 1 then some (some (.int v), h) else none := x_zret hc_28 dX5_takeWord_23 rfl
theorem x_28_24 {ls st : List Value} {h : Hp}  : ex 28 24 ls (st) h = gA (ldA ls 0) 28 25 ls st h := x_aload_n hc_28 dX5_takeWord_24 rfl rfl
theorem x_28_25i {ls st : List Value} {h : Hp} {u : Int32} : ex 28 25 ls (.int u :: st) h = ex 28 26 ls (.int u :: .int u :: st) h := x_dup_i hc_28 dX5_takeWord_25 rfl
theorem x_28_25a {ls st : List Value} {h : Hp} {u : Nat} : ex 28 25 ls (.ref u :: st) h = ex 28 26 ls (.ref u :: .ref u :: st) h := x_dup_a hc_28 dX5_takeWord_25 rfl
theorem x_28_26 {ls st : List Value} {h : Hp} {k : Nat} : ex 28 26 ls (.ref k :: st) h = if kd k = 5 then ex 28 29 ls (vl h k 2 :: st) h else none := x_getf hc_28 dX5_takeWord_26 rfl fr_5_19
theorem x_28_29 {ls st : List Value} {h : Hp}  : ex 28 29 ls (st) h = ex 28 30 ls (.int (1) :: st) h := x_iconst hc_28 dX5_takeWord_29 rfl (by decide)
theorem x_28_30 {ls st : List Value} {h : Hp} {a b : Int32} : ex 28 30 ls (.int b :: .int a :: st) h = ex 28 31 ls (.int (a + b) :: st) h := x_iadd hc_28 dX5_takeWord_30 rfl
theorem x_28_31 {ls st : List Value} {h : Hp} {k : Nat} {x : Int32} : ex 28 31 ls (.int x :: .ref k :: st) h = if kd k = 5 then ex 28 34 ls st (hu h k 2 x) else none := x_putf hc_28 dX5_takeWord_31 rfl fr_5_19 (by decide)
theorem x_28_34 {ls st : List Value} {h : Hp}  : ex 28 34 ls (st) h = gN (ldI ls 2) 28 37 ls 2 (1) st h := x_iinc hc_28 dX5_takeWord_34 rfl (by decide) (by decide)
theorem x_28_37 {ls st : List Value} {h : Hp}  : ex 28 37 ls (st) h = ex 28 2 ls st h := x_goto hc_28 dX5_takeWord_37 (by decide)
theorem x_28_40 {ls st : List Value} {h : Hp}  : ex 28 40 ls (st) h = ex 28 41 ls (.int (1) :: st) h := x_iconst hc_28 dX5_takeWord_40 rfl (by decide)
theorem x_28_41 {ls : List Value} {h : Hp} {v : Int32} : ex 28 41 ls [.int v] h = if v = 0 ∨ v = 1 then some (some (.int v), h) else none := x_zret hc_28 dX5_takeWord_41 rfl
theorem x_29_0 {ls st : List Value} {h : Hp}  : ex 29 0 ls (st) h = ex 29 1 ls (.int (-1) :: st) h := x_iconst hc_29 dX5_takeNumber_0 rfl (by decide)
theorem x_29_1 {ls st : List Value} {h : Hp} {x : Int32} : ex 29 1 ls (.int x :: st) h = ex 29 2 (ls.set 1 (.int x)) st h := x_istore_n hc_29 dX5_takeNumber_1 rfl rfl (by decide)
theorem x_29_2 {ls st : List Value} {h : Hp}  : ex 29 2 ls (st) h = ex 29 3 ls (.int (0) :: st) h := x_iconst hc_29 dX5_takeNumber_2 rfl (by decide)
theorem x_29_3 {ls st : List Value} {h : Hp} {x : Int32} : ex 29 3 ls (.int x :: st) h = ex 29 4 (ls.set 2 (.int x)) st h := x_istore_n hc_29 dX5_takeNumber_3 rfl rfl (by decide)
theorem x_29_4 {ls st : List Value} {h : Hp}  : ex 29 4 ls (st) h = gI (ldI ls 2) 29 5 ls st h := x_iload_n hc_29 dX5_takeNumber_4 rfl rfl
theorem x_29_5 {ls st : List Value} {h : Hp}  : ex 29 5 ls (st) h = ex 29 6 ls (.int (3) :: st) h := x_iconst hc_29 dX5_takeNumber_5 rfl (by decide)
theorem x_29_6 {ls st : List Value} {h : Hp} {x z : Int32} : ex 29 6 ls (.int z :: .int x :: st) h = if x < z then ex 29 9 ls st h else ex 29 52 ls st h := x_icmp_ge hc_29 dX5_takeNumber_6 rfl (by decide)
theorem x_29_9 {ls st : List Value} {h : Hp}  : ex 29 9 ls (st) h = gA (ldA ls 0) 29 10 ls st h := x_aload_n hc_29 dX5_takeNumber_9 rfl rfl
theorem x_29_10 {ls st : List Value} {h : Hp} {k : Nat}  : ex 29 10 ls (.ref k :: st) h = if kd k = 5 ∧ st.length ≤ 4 then gC (ex 27 0 [.ref k] [] h) 29 13 ls st else none := x_callV (as := []) hc_29 dX5_takeNumber_10 rfl mr_5_42 rfl rfl rfl (by decide) (by decide)
theorem x_29_13 {ls st : List Value} {h : Hp} {a0 : Int32} : ex 29 13 ls (.int a0 :: st) h = if st.length ≤ 4 then gC (ex 30 0 [.int a0] [] h) 29 16 ls st else none := x_callS (as := [.int a0]) hc_29 dX5_takeNumber_13 rfl mr_5_85 rfl rfl rfl (by decide)
theorem x_29_16 {ls st : List Value} {h : Hp} {x : Int32} : ex 29 16 ls (.int x :: st) h = if x = 0 then ex 29 52 ls st h else ex 29 19 ls st h := x_if_eq hc_29 dX5_takeNumber_16 rfl (by decide)
theorem x_29_19 {ls st : List Value} {h : Hp}  : ex 29 19 ls (st) h = ex 29 20 ls (.int (0) :: st) h := x_iconst hc_29 dX5_takeNumber_19 rfl (by decide)
theorem x_29_20 {ls st : List Value} {h : Hp}  : ex 29 20 ls (st) h = gI (ldI ls 1) 29 21 ls st h := x_iload_n hc_29 dX5_takeNumber_20 rfl rfl
theorem x_29_21 {ls st : List Value} {h : Hp} {a0 : Int32} {a1 : Int32} : ex 29 21 ls (.int a1 :: .int a0 :: st) h = if st.length ≤ 4 then gC (ex 149 0 [.int a0, .int a1] [] h) 29 24 ls st else none := x_callS (as := [.int a0, .int a1]) hc_29 dX5_takeNumber_21 rfl mr_5_89 rfl rfl rfl (by decide)
theorem x_29_24 {ls st : List Value} {h : Hp}  : ex 29 24 ls (st) h = ex 29 26 ls (.int (10) :: st) h := x_bipush hc_29 dX5_takeNumber_24 rfl (by decide)
theorem x_29_26 {ls st : List Value} {h : Hp} {a b : Int32} : ex 29 26 ls (.int b :: .int a :: st) h = ex 29 27 ls (.int (a * b) :: st) h := x_imul hc_29 dX5_takeNumber_26 rfl
theorem x_29_27 {ls st : List Value} {h : Hp}  : ex 29 27 ls (st) h = gA (ldA ls 0) 29 28 ls st h := x_aload_n hc_29 dX5_takeNumber_27 rfl rfl
theorem x_29_28 {ls st : List Value} {h : Hp} {k : Nat}  : ex 29 28 ls (.ref k :: st) h = if kd k = 5 ∧ st.length ≤ 4 then gC (ex 27 0 [.ref k] [] h) 29 31 ls st else none := x_callV (as := []) hc_29 dX5_takeNumber_28 rfl mr_5_42 rfl rfl rfl (by decide) (by decide)
theorem x_29_31 {ls st : List Value} {h : Hp}  : ex 29 31 ls (st) h = ex 29 33 ls (.int (48) :: st) h := x_bipush hc_29 dX5_takeNumber_31 rfl (by decide)
theorem x_29_33 {ls st : List Value} {h : Hp} {a b : Int32} : ex 29 33 ls (.int b :: .int a :: st) h = ex 29 34 ls (.int (a - b) :: st) h := x_isub hc_29 dX5_takeNumber_33 rfl
theorem x_29_34 {ls st : List Value} {h : Hp} {a b : Int32} : ex 29 34 ls (.int b :: .int a :: st) h = ex 29 35 ls (.int (a + b) :: st) h := x_iadd hc_29 dX5_takeNumber_34 rfl
theorem x_29_35 {ls st : List Value} {h : Hp} {x : Int32} : ex 29 35 ls (.int x :: st) h = ex 29 36 (ls.set 1 (.int x)) st h := x_istore_n hc_29 dX5_takeNumber_35 rfl rfl (by decide)
theorem x_29_36 {ls st : List Value} {h : Hp}  : ex 29 36 ls (st) h = gA (ldA ls 0) 29 37 ls st h := x_aload_n hc_29 dX5_takeNumber_36 rfl rfl
theorem x_29_37i {ls st : List Value} {h : Hp} {u : Int32} : ex 29 37 ls (.int u :: st) h = ex 29 38 ls (.int u :: .int u :: st) h := x_dup_i hc_29 dX5_takeNumber_37 rfl
theorem x_29_37a {ls st : List Value} {h : Hp} {u : Nat} : ex 29 37 ls (.ref u :: st) h = ex 29 38 ls (.ref u :: .ref u :: st) h := x_dup_a hc_29 dX5_takeNumber_37 rfl
theorem x_29_38 {ls st : List Value} {h : Hp} {k : Nat} : ex 29 38 ls (.ref k :: st) h = if kd k = 5 then ex 29 41 ls (vl h k 2 :: st) h else none := x_getf hc_29 dX5_takeNumber_38 rfl fr_5_19
theorem x_29_41 {ls st : List Value} {h : Hp}  : ex 29 41 ls (st) h = ex 29 42 ls (.int (1) :: st) h := x_iconst hc_29 dX5_takeNumber_41 rfl (by decide)
theorem x_29_42 {ls st : List Value} {h : Hp} {a b : Int32} : ex 29 42 ls (.int b :: .int a :: st) h = ex 29 43 ls (.int (a + b) :: st) h := x_iadd hc_29 dX5_takeNumber_42 rfl
theorem x_29_43 {ls st : List Value} {h : Hp} {k : Nat} {x : Int32} : ex 29 43 ls (.int x :: .ref k :: st) h = if kd k = 5 then ex 29 46 ls st (hu h k 2 x) else none := x_putf hc_29 dX5_takeNumber_43 rfl fr_5_19 (by decide)
theorem x_29_46 {ls st : List Value} {h : Hp}  : ex 29 46 ls (st) h = gN (ldI ls 2) 29 49 ls 2 (1) st h := x_iinc hc_29 dX5_takeNumber_46 rfl (by decide) (by decide)
theorem x_29_49 {ls st : List Value} {h : Hp}  : ex 29 49 ls (st) h = ex 29 4 ls st h := x_goto hc_29 dX5_takeNumber_49 (by decide)
theorem x_29_52 {ls st : List Value} {h : Hp}  : ex 29 52 ls (st) h = gI (ldI ls 1) 29 53 ls st h := x_iload_n hc_29 dX5_takeNumber_52 rfl rfl
theorem x_29_53 {ls : List Value} {h : Hp} {v : Int32} : ex 29 53 ls [.int v] h = some (some (.int v), h) := x_iret hc_29 dX5_takeNumber_53 rfl
theorem x_30_0 {ls st : List Value} {h : Hp}  : ex 30 0 ls (st) h = gI (ldI ls 0) 30 1 ls st h := x_iload_n hc_30 dX5_isDigit_0 rfl rfl
theorem x_30_1 {ls st : List Value} {h : Hp}  : ex 30 1 ls (st) h = ex 30 3 ls (.int (48) :: st) h := x_bipush hc_30 dX5_isDigit_1 rfl (by decide)
theorem x_30_3 {ls st : List Value} {h : Hp} {x z : Int32} : ex 30 3 ls (.int z :: .int x :: st) h = if x < z then ex 30 16 ls st h else ex 30 6 ls st h := x_icmp_lt hc_30 dX5_isDigit_3 rfl (by decide)
theorem x_30_6 {ls st : List Value} {h : Hp}  : ex 30 6 ls (st) h = gI (ldI ls 0) 30 7 ls st h := x_iload_n hc_30 dX5_isDigit_6 rfl rfl
theorem x_30_7 {ls st : List Value} {h : Hp}  : ex 30 7 ls (st) h = ex 30 9 ls (.int (57) :: st) h := x_bipush hc_30 dX5_isDigit_7 rfl (by decide)
theorem x_30_9 {ls st : List Value} {h : Hp} {x z : Int32} : ex 30 9 ls (.int z :: .int x :: st) h = if z < x then ex 30 16 ls st h else ex 30 12 ls st h := x_icmp_gt hc_30 dX5_isDigit_9 rfl (by decide)
theorem x_30_12 {ls st : List Value} {h : Hp}  : ex 30 12 ls (st) h = ex 30 13 ls (.int (1) :: st) h := x_iconst hc_30 dX5_isDigit_12 rfl (by decide)
theorem x_30_13 {ls st : List Value} {h : Hp}  : ex 30 13 ls (st) h = ex 30 17 ls st h := x_goto hc_30 dX5_isDigit_13 (by decide)
theorem x_30_16 {ls st : List Value} {h : Hp}  : ex 30 16 ls (st) h = ex 30 17 ls (.int (0) :: st) h := x_iconst hc_30 dX5_isDigit_16 rfl (by decide)
theorem x_30_17 {ls : List Value} {h : Hp} {v : Int32} : ex 30 17 ls [.int v] h = if v = 0 ∨ v = 1 then some (some (.int v), h) else none := x_zret hc_30 dX5_isDigit_17 rfl
theorem x_31_0 {ls st : List Value} {h : Hp}  : ex 31 0 ls (st) h = gA (ldA ls 0) 31 1 ls st h := x_aload_n hc_31 dX5_takeTest_0 rfl rfl
theorem x_31_1 {ls st : List Value} {h : Hp} {k : Nat}  : ex 31 1 ls (.ref k :: st) h = if kd k = 5 ∧ st.length ≤ 4 then gC (ex 27 0 [.ref k] [] h) 31 4 ls st else none := x_callV (as := []) hc_31 dX5_takeTest_1 rfl mr_5_42 rfl rfl rfl (by decide) (by decide)
theorem x_31_4 {ls st : List Value} {h : Hp} {a0 : Int32} : ex 31 4 ls (.int a0 :: st) h = if st.length ≤ 4 then gC (ex 32 0 [.int a0] [] h) 31 7 ls st else none := x_callS (as := [.int a0]) hc_31 dX5_takeTest_4 rfl mr_5_60 rfl rfl rfl (by decide)
theorem x_31_7 {ls st : List Value} {h : Hp} {x : Int32} : ex 31 7 ls (.int x :: st) h = ex 31 8 (ls.set 2 (.int x)) st h := x_istore_n hc_31 dX5_takeTest_7 rfl rfl (by decide)
theorem x_31_8 {ls st : List Value} {h : Hp}  : ex 31 8 ls (st) h = gI (ldI ls 2) 31 9 ls st h := x_iload_n hc_31 dX5_takeTest_8 rfl rfl
theorem x_31_9 {ls st : List Value} {h : Hp}  : ex 31 9 ls (st) h = ex 31 10 ls (.int (-1) :: st) h := x_iconst hc_31 dX5_takeTest_9 rfl (by decide)
theorem x_31_10 {ls st : List Value} {h : Hp} {x z : Int32} : ex 31 10 ls (.int z :: .int x :: st) h = if x = z then ex 31 24 ls st h else ex 31 13 ls st h := x_icmp_eq hc_31 dX5_takeTest_10 rfl (by decide)
theorem x_31_13 {ls st : List Value} {h : Hp}  : ex 31 13 ls (st) h = gA (ldA ls 0) 31 14 ls st h := x_aload_n hc_31 dX5_takeTest_13 rfl rfl
theorem x_31_14 {ls st : List Value} {h : Hp}  : ex 31 14 ls (st) h = gI (ldI ls 2) 31 15 ls st h := x_iload_n hc_31 dX5_takeTest_14 rfl rfl
theorem x_31_15 {ls st : List Value} {h : Hp} {a0 : Int32} : ex 31 15 ls (.int a0 :: st) h = if st.length ≤ 4 then gC (ex 33 0 [.int a0] [] h) 31 18 ls st else none := x_callS (as := [.int a0]) hc_31 dX5_takeTest_15 rfl mr_5_64 rfl rfl rfl (by decide)
theorem x_31_18 {ls st : List Value} {h : Hp} {k : Nat} {a0 : Nat} : ex 31 18 ls (.ref a0 :: .ref k :: st) h = if kd k = 5 ∧ st.length ≤ 4 then gC (ex 28 0 [.ref k, .ref a0, .null] [] h) 31 21 ls st else none := x_callV (as := [.ref a0]) hc_31 dX5_takeTest_18 rfl mr_5_35 rfl rfl rfl (by decide) (by decide)
theorem x_31_21 {ls st : List Value} {h : Hp} {x : Int32} : ex 31 21 ls (.int x :: st) h = if x = 0 then ex 31 24 ls st h else ex 31 26 ls st h := x_if_ne hc_31 dX5_takeTest_21 rfl (by decide)
theorem x_31_24 {ls st : List Value} {h : Hp}  : ex 31 24 ls (st) h = ex 31 25 ls (.int (0) :: st) h := x_iconst hc_31 dX5_takeTest_24 rfl (by decide)
theorem x_31_25 {ls : List Value} {h : Hp} {v : Int32} : ex 31 25 ls [.int v] h = if v = 0 ∨ v = 1 then some (some (.int v), h) else none := x_zret hc_31 dX5_takeTest_25 rfl
theorem x_31_26 {ls st : List Value} {h : Hp}  : ex 31 26 ls (st) h = gA (ldA ls 0) 31 27 ls st h := x_aload_n hc_31 dX5_takeTest_26 rfl rfl
theorem x_31_27 {ls st : List Value} {h : Hp} {k : Nat}  : ex 31 27 ls (.ref k :: st) h = if kd k = 5 ∧ st.length ≤ 4 then gC (ex 27 0 [.ref k] [] h) 31 30 ls st else none := x_callV (as := []) hc_31 dX5_takeTest_27 rfl mr_5_42 rfl rfl rfl (by decide) (by decide)
theorem x_31_30 {ls st : List Value} {h : Hp} {x : Int32} : ex 31 30 ls (.int x :: st) h = ex 31 31 (ls.set 3 (.int x)) st h := x_istore_n hc_31 dX5_takeTest_30 rfl rfl (by decide)
theorem x_31_31 {ls st : List Value} {h : Hp}  : ex 31 31 ls (st) h = gI (ldI ls 3) 31 32 ls st h := x_iload_n hc_31 dX5_takeTest_31 rfl rfl
theorem x_31_32 {ls st : List Value} {h : Hp}  : ex 31 32 ls (st) h = ex 31 34 ls (.int (61) :: st) h := x_bipush hc_31 dX5_takeTest_32 rfl (by decide)
theorem x_31_34 {ls st : List Value} {h : Hp} {x z : Int32} : ex 31 34 ls (.int z :: .int x :: st) h = if x = z then ex 31 51 ls st h else ex 31 37 ls st h := x_icmp_eq hc_31 dX5_takeTest_34 rfl (by decide)
theorem x_31_37 {ls st : List Value} {h : Hp}  : ex 31 37 ls (st) h = gI (ldI ls 3) 31 38 ls st h := x_iload_n hc_31 dX5_takeTest_37 rfl rfl
theorem x_31_38 {ls st : List Value} {h : Hp}  : ex 31 38 ls (st) h = ex 31 40 ls (.int (60) :: st) h := x_bipush hc_31 dX5_takeTest_38 rfl (by decide)
theorem x_31_40 {ls st : List Value} {h : Hp} {x z : Int32} : ex 31 40 ls (.int z :: .int x :: st) h = if x = z then ex 31 51 ls st h else ex 31 43 ls st h := x_icmp_eq hc_31 dX5_takeTest_40 rfl (by decide)
theorem x_31_43 {ls st : List Value} {h : Hp}  : ex 31 43 ls (st) h = gI (ldI ls 3) 31 44 ls st h := x_iload_n hc_31 dX5_takeTest_43 rfl rfl
theorem x_31_44 {ls st : List Value} {h : Hp}  : ex 31 44 ls (st) h = ex 31 46 ls (.int (62) :: st) h := x_bipush hc_31 dX5_takeTest_44 rfl (by decide)
theorem x_31_46 {ls st : List Value} {h : Hp} {x z : Int32} : ex 31 46 ls (.int z :: .int x :: st) h = if x = z then ex 31 51 ls st h else ex 31 49 ls st h := x_icmp_eq hc_31 dX5_takeTest_46 rfl (by decide)
theorem x_31_49 {ls st : List Value} {h : Hp}  : ex 31 49 ls (st) h = ex 31 50 ls (.int (0) :: st) h := x_iconst hc_31 dX5_takeTest_49 rfl (by decide)
theorem x_31_50 {ls : List Value} {h : Hp} {v : Int32} : ex 31 50 ls [.int v] h = if v = 0 ∨ v = 1 then some (some (.int v), h) else none := x_zret hc_31 dX5_takeTest_50 rfl
theorem x_31_51 {ls st : List Value} {h : Hp}  : ex 31 51 ls (st) h = gA (ldA ls 0) 31 52 ls st h := x_aload_n hc_31 dX5_takeTest_51 rfl rfl
theorem x_31_52i {ls st : List Value} {h : Hp} {u : Int32} : ex 31 52 ls (.int u :: st) h = ex 31 53 ls (.int u :: .int u :: st) h := x_dup_i hc_31 dX5_takeTest_52 rfl
theorem x_31_52a {ls st : List Value} {h : Hp} {u : Nat} : ex 31 52 ls (.ref u :: st) h = ex 31 53 ls (.ref u :: .ref u :: st) h := x_dup_a hc_31 dX5_takeTest_52 rfl
theorem x_31_53 {ls st : List Value} {h : Hp} {k : Nat} : ex 31 53 ls (.ref k :: st) h = if kd k = 5 then ex 31 56 ls (vl h k 2 :: st) h else none := x_getf hc_31 dX5_takeTest_53 rfl fr_5_19
theorem x_31_56 {ls st : List Value} {h : Hp}  : ex 31 56 ls (st) h = ex 31 57 ls (.int (1) :: st) h := x_iconst hc_31 dX5_takeTest_56 rfl (by decide)
theorem x_31_57 {ls st : List Value} {h : Hp} {a b : Int32} : ex 31 57 ls (.int b :: .int a :: st) h = ex 31 58 ls (.int (a + b) :: st) h := x_iadd hc_31 dX5_takeTest_57 rfl
theorem x_31_58 {ls st : List Value} {h : Hp} {k : Nat} {x : Int32} : ex 31 58 ls (.int x :: .ref k :: st) h = if kd k = 5 then ex 31 61 ls st (hu h k 2 x) else none := x_putf hc_31 dX5_takeTest_58 rfl fr_5_19 (by decide)
theorem x_31_61 {ls st : List Value} {h : Hp}  : ex 31 61 ls (st) h = gA (ldA ls 0) 31 62 ls st h := x_aload_n hc_31 dX5_takeTest_61 rfl rfl
theorem x_31_62 {ls st : List Value} {h : Hp} {k : Nat}  : ex 31 62 ls (.ref k :: st) h = if kd k = 5 ∧ st.length ≤ 4 then gC (ex 27 0 [.ref k] [] h) 31 65 ls st else none := x_callV (as := []) hc_31 dX5_takeTest_62 rfl mr_5_42 rfl rfl rfl (by decide) (by decide)
theorem x_31_65 {ls st : List Value} {h : Hp}  : ex 31 65 ls (st) h = ex 31 67 ls (.int (45) :: st) h := x_bipush hc_31 dX5_takeTest_65 rfl (by decide)
theorem x_31_67 {ls st : List Value} {h : Hp} {x z : Int32} : ex 31 67 ls (.int z :: .int x :: st) h = if x = z then ex 31 70 ls st h else ex 31 74 ls st h := x_icmp_ne hc_31 dX5_takeTest_67 rfl (by decide)
theorem x_31_70 {ls st : List Value} {h : Hp}  : ex 31 70 ls (st) h = ex 31 71 ls (.int (1) :: st) h := x_iconst hc_31 dX5_takeTest_70 rfl (by decide)
theorem x_31_71 {ls st : List Value} {h : Hp}  : ex 31 71 ls (st) h = ex 31 75 ls st h := x_goto hc_31 dX5_takeTest_71 (by decide)
theorem x_31_74 {ls st : List Value} {h : Hp}  : ex 31 74 ls (st) h = ex 31 75 ls (.int (0) :: st) h := x_iconst hc_31 dX5_takeTest_74 rfl (by decide)
theorem x_31_75 {ls st : List Value} {h : Hp} {x : Int32} : ex 31 75 ls (.int x :: st) h = ex 31 77 (ls.set 4 (.int x)) st h := x_istore hc_31 dX5_takeTest_75 rfl (by decide)
theorem x_31_77 {ls st : List Value} {h : Hp}  : ex 31 77 ls (st) h = gA (ldA ls 0) 31 78 ls st h := x_aload_n hc_31 dX5_takeTest_77 rfl rfl
theorem x_31_78i {ls st : List Value} {h : Hp} {u : Int32} : ex 31 78 ls (.int u :: st) h = ex 31 79 ls (.int u :: .int u :: st) h := x_dup_i hc_31 dX5_takeTest_78 rfl
theorem x_31_78a {ls st : List Value} {h : Hp} {u : Nat} : ex 31 78 ls (.ref u :: st) h = ex 31 79 ls (.ref u :: .ref u :: st) h := x_dup_a hc_31 dX5_takeTest_78 rfl
theorem x_31_79 {ls st : List Value} {h : Hp} {k : Nat} : ex 31 79 ls (.ref k :: st) h = if kd k = 5 then ex 31 82 ls (vl h k 2 :: st) h else none := x_getf hc_31 dX5_takeTest_79 rfl fr_5_19
theorem x_31_82 {ls st : List Value} {h : Hp}  : ex 31 82 ls (st) h = gI (ldI ls 4) 31 84 ls st h := x_iload hc_31 dX5_takeTest_82 rfl
theorem x_31_84 {ls st : List Value} {h : Hp} {x : Int32} : ex 31 84 ls (.int x :: st) h = if x = 0 then ex 31 91 ls st h else ex 31 87 ls st h := x_if_eq hc_31 dX5_takeTest_84 rfl (by decide)
theorem x_31_87 {ls st : List Value} {h : Hp}  : ex 31 87 ls (st) h = ex 31 88 ls (.int (1) :: st) h := x_iconst hc_31 dX5_takeTest_87 rfl (by decide)
theorem x_31_88 {ls st : List Value} {h : Hp}  : ex 31 88 ls (st) h = ex 31 92 ls st h := x_goto hc_31 dX5_takeTest_88 (by decide)
theorem x_31_91 {ls st : List Value} {h : Hp}  : ex 31 91 ls (st) h = ex 31 92 ls (.int (0) :: st) h := x_iconst hc_31 dX5_takeTest_91 rfl (by decide)
theorem x_31_92 {ls st : List Value} {h : Hp} {a b : Int32} : ex 31 92 ls (.int b :: .int a :: st) h = ex 31 93 ls (.int (a + b) :: st) h := x_iadd hc_31 dX5_takeTest_92 rfl
theorem x_31_93 {ls st : List Value} {h : Hp} {k : Nat} {x : Int32} : ex 31 93 ls (.int x :: .ref k :: st) h = if kd k = 5 then ex 31 96 ls st (hu h k 2 x) else none := x_putf hc_31 dX5_takeTest_93 rfl fr_5_19 (by decide)
theorem x_31_96 {ls st : List Value} {h : Hp}  : ex 31 96 ls (st) h = gA (ldA ls 0) 31 97 ls st h := x_aload_n hc_31 dX5_takeTest_96 rfl rfl
theorem x_31_97 {ls st : List Value} {h : Hp} {k : Nat}  : ex 31 97 ls (.ref k :: st) h = if kd k = 5 ∧ st.length ≤ 4 then gC (ex 29 0 [.ref k, .null, .null] [] h) 31 100 ls st else none := x_callV (as := []) hc_31 dX5_takeTest_97 rfl mr_5_54 rfl rfl rfl (by decide) (by decide)
theorem x_31_100 {ls st : List Value} {h : Hp} {x : Int32} : ex 31 100 ls (.int x :: st) h = ex 31 102 (ls.set 5 (.int x)) st h := x_istore hc_31 dX5_takeTest_100 rfl (by decide)
theorem x_31_102 {ls st : List Value} {h : Hp}  : ex 31 102 ls (st) h = gI (ldI ls 5) 31 104 ls st h := x_iload hc_31 dX5_takeTest_102 rfl
theorem x_31_104 {ls st : List Value} {h : Hp}  : ex 31 104 ls (st) h = ex 31 105 ls (.int (-1) :: st) h := x_iconst hc_31 dX5_takeTest_104 rfl (by decide)
theorem x_31_105 {ls st : List Value} {h : Hp} {x z : Int32} : ex 31 105 ls (.int z :: .int x :: st) h = if x = z then ex 31 108 ls st h else ex 31 110 ls st h := x_icmp_ne hc_31 dX5_takeTest_105 rfl (by decide)
theorem x_31_108 {ls st : List Value} {h : Hp}  : ex 31 108 ls (st) h = ex 31 109 ls (.int (0) :: st) h := x_iconst hc_31 dX5_takeTest_108 rfl (by decide)
theorem x_31_109 {ls : List Value} {h : Hp} {v : Int32} : ex 31 109 ls [.int v] h = if v = 0 ∨ v = 1 then some (some (.int v), h) else none := x_zret hc_31 dX5_takeTest_109 rfl
theorem x_31_110 {ls st : List Value} {h : Hp}  : ex 31 110 ls (st) h = gA (ldA ls 1) 31 111 ls st h := x_aload_n hc_31 dX5_takeTest_110 rfl rfl
theorem x_31_111 {ls st : List Value} {h : Hp} {k : Nat} : ex 31 111 ls (.ref k :: st) h = if kd k = 3 then ex 31 114 ls (vl h k 0 :: st) h else none := x_getf hc_31 dX5_takeTest_111 rfl fr_5_68
theorem x_31_114 {ls st : List Value} {h : Hp}  : ex 31 114 ls (st) h = gA (ldA ls 1) 31 115 ls st h := x_aload_n hc_31 dX5_takeTest_114 rfl rfl
theorem x_31_115 {ls st : List Value} {h : Hp} {k : Nat} : ex 31 115 ls (.ref k :: st) h = if kd k = 3 then ex 31 118 ls (vl h k 5 :: st) h else none := x_getf hc_31 dX5_takeTest_115 rfl fr_5_22
theorem x_31_118 {ls st : List Value} {h : Hp}  : ex 31 118 ls (st) h = gI (ldI ls 2) 31 119 ls st h := x_iload_n hc_31 dX5_takeTest_118 rfl rfl
theorem x_31_119 {ls st : List Value} {h : Hp} {k : Nat} {x u : Int32} : ex 31 119 ls (.int u :: .int x :: .ref k :: st) h = if kd k = 9 ∧ x.toNatClampNeg < ln k ∧ 0 ≤ x then ex 31 120 ls st (hu h k x.toNatClampNeg u) else none := x_iast hc_31 dX5_takeTest_119 rfl
theorem x_31_120 {ls st : List Value} {h : Hp}  : ex 31 120 ls (st) h = gA (ldA ls 1) 31 121 ls st h := x_aload_n hc_31 dX5_takeTest_120 rfl rfl
theorem x_31_121 {ls st : List Value} {h : Hp} {k : Nat} : ex 31 121 ls (.ref k :: st) h = if kd k = 3 then ex 31 124 ls (vl h k 1 :: st) h else none := x_getf hc_31 dX5_takeTest_121 rfl fr_5_71
theorem x_31_124 {ls st : List Value} {h : Hp}  : ex 31 124 ls (st) h = gA (ldA ls 1) 31 125 ls st h := x_aload_n hc_31 dX5_takeTest_124 rfl rfl
theorem x_31_125 {ls st : List Value} {h : Hp} {k : Nat} : ex 31 125 ls (.ref k :: st) h = if kd k = 3 then ex 31 128 ls (vl h k 5 :: st) h else none := x_getf hc_31 dX5_takeTest_125 rfl fr_5_22
theorem x_31_128 {ls st : List Value} {h : Hp}  : ex 31 128 ls (st) h = gI (ldI ls 3) 31 129 ls st h := x_iload_n hc_31 dX5_takeTest_128 rfl rfl
theorem x_31_129 {ls st : List Value} {h : Hp} {k : Nat} {x u : Int32} : ex 31 129 ls (.int u :: .int x :: .ref k :: st) h = if kd k = 9 ∧ x.toNatClampNeg < ln k ∧ 0 ≤ x then ex 31 130 ls st (hu h k x.toNatClampNeg u) else none := x_iast hc_31 dX5_takeTest_129 rfl
theorem x_31_130 {ls st : List Value} {h : Hp}  : ex 31 130 ls (st) h = gA (ldA ls 1) 31 131 ls st h := x_aload_n hc_31 dX5_takeTest_130 rfl rfl
theorem x_31_131 {ls st : List Value} {h : Hp} {k : Nat} : ex 31 131 ls (.ref k :: st) h = if kd k = 3 then ex 31 134 ls (vl h k 2 :: st) h else none := x_getf hc_31 dX5_takeTest_131 rfl fr_5_74
theorem x_31_134 {ls st : List Value} {h : Hp}  : ex 31 134 ls (st) h = gA (ldA ls 1) 31 135 ls st h := x_aload_n hc_31 dX5_takeTest_134 rfl rfl
theorem x_31_135 {ls st : List Value} {h : Hp} {k : Nat} : ex 31 135 ls (.ref k :: st) h = if kd k = 3 then ex 31 138 ls (vl h k 5 :: st) h else none := x_getf hc_31 dX5_takeTest_135 rfl fr_5_22
theorem x_31_138 {ls st : List Value} {h : Hp}  : ex 31 138 ls (st) h = gI (ldI ls 4) 31 140 ls st h := x_iload hc_31 dX5_takeTest_138 rfl
theorem x_31_140 {ls st : List Value} {h : Hp} {x : Int32} : ex 31 140 ls (.int x :: st) h = if x = 0 then ex 31 149 ls st h else ex 31 143 ls st h := x_if_eq hc_31 dX5_takeTest_140 rfl (by decide)
theorem x_31_143 {ls st : List Value} {h : Hp}  : ex 31 143 ls (st) h = gI (ldI ls 5) 31 145 ls st h := x_iload hc_31 dX5_takeTest_143 rfl
theorem x_31_145 {ls st : List Value} {h : Hp} {a : Int32} : ex 31 145 ls (.int a :: st) h = ex 31 146 ls (.int (-a) :: st) h := x_ineg hc_31 dX5_takeTest_145 rfl
theorem x_31_146 {ls st : List Value} {h : Hp}  : ex 31 146 ls (st) h = ex 31 151 ls st h := x_goto hc_31 dX5_takeTest_146 (by decide)
theorem x_31_149 {ls st : List Value} {h : Hp}  : ex 31 149 ls (st) h = gI (ldI ls 5) 31 151 ls st h := x_iload hc_31 dX5_takeTest_149 rfl
theorem x_31_151 {ls st : List Value} {h : Hp} {k : Nat} {x u : Int32} : ex 31 151 ls (.int u :: .int x :: .ref k :: st) h = if kd k = 9 ∧ x.toNatClampNeg < ln k ∧ 0 ≤ x then ex 31 152 ls st (hu h k x.toNatClampNeg u) else none := x_iast hc_31 dX5_takeTest_151 rfl
theorem x_31_152 {ls st : List Value} {h : Hp}  : ex 31 152 ls (st) h = gA (ldA ls 1) 31 153 ls st h := x_aload_n hc_31 dX5_takeTest_152 rfl rfl
theorem x_31_153i {ls st : List Value} {h : Hp} {u : Int32} : ex 31 153 ls (.int u :: st) h = ex 31 154 ls (.int u :: .int u :: st) h := x_dup_i hc_31 dX5_takeTest_153 rfl
theorem x_31_153a {ls st : List Value} {h : Hp} {u : Nat} : ex 31 153 ls (.ref u :: st) h = ex 31 154 ls (.ref u :: .ref u :: st) h := x_dup_a hc_31 dX5_takeTest_153 rfl
theorem x_31_154 {ls st : List Value} {h : Hp} {k : Nat} : ex 31 154 ls (.ref k :: st) h = if kd k = 3 then ex 31 157 ls (vl h k 5 :: st) h else none := x_getf hc_31 dX5_takeTest_154 rfl fr_5_22
theorem x_31_157 {ls st : List Value} {h : Hp}  : ex 31 157 ls (st) h = ex 31 158 ls (.int (1) :: st) h := x_iconst hc_31 dX5_takeTest_157 rfl (by decide)
theorem x_31_158 {ls st : List Value} {h : Hp} {a b : Int32} : ex 31 158 ls (.int b :: .int a :: st) h = ex 31 159 ls (.int (a + b) :: st) h := x_iadd hc_31 dX5_takeTest_158 rfl
theorem x_31_159 {ls st : List Value} {h : Hp} {k : Nat} {x : Int32} : ex 31 159 ls (.int x :: .ref k :: st) h = if kd k = 3 then ex 31 162 ls st (hu h k 5 x) else none := x_putf hc_31 dX5_takeTest_159 rfl fr_5_22 (by decide)
theorem x_31_162 {ls st : List Value} {h : Hp}  : ex 31 162 ls (st) h = ex 31 163 ls (.int (1) :: st) h := x_iconst hc_31 dX5_takeTest_162 rfl (by decide)
theorem x_31_163 {ls : List Value} {h : Hp} {v : Int32} : ex 31 163 ls [.int v] h = if v = 0 ∨ v = 1 then some (some (.int v), h) else none := x_zret hc_31 dX5_takeTest_163 rfl
theorem x_32_0 {ls st : List Value} {h : Hp}  : ex 32 0 ls (st) h = gI (ldI ls 0) 32 1 ls st h := x_iload_n hc_32 dX5_fieldThatBegins_0 rfl rfl
theorem x_32_1 {ls st : List Value} {h : Hp} {x : Int32} : ex 32 1 ls (.int x :: st) h = if x = 99 then ex 32 60 ls st h else if x = 104 then ex 32 54 ls st h else if x = 105 then ex 32 52 ls st h else if x = 111 then ex 32 56 ls st h else if x = 115 then ex 32 58 ls st h else ex 32 62 ls st h := by
  rw [x_lkp hc_32 dX5_fieldThatBegins_1 (by decide)]
  by_cases h0 : x = 99
  · subst h0; rfl
  by_cases h1 : x = 104
  · subst h1; rfl
  by_cases h2 : x = 105
  · subst h2; rfl
  by_cases h3 : x = 111
  · subst h3; rfl
  by_cases h4 : x = 115
  · subst h4; rfl
  rw [lv_osw h0 (by decide), lv_osw h1 (by decide), lv_osw h2 (by decide), lv_osw h3 (by decide), lv_osw h4 (by decide), if_neg h0, if_neg h1, if_neg h2, if_neg h3, if_neg h4]
  rfl
theorem x_32_52 {ls st : List Value} {h : Hp}  : ex 32 52 ls (st) h = ex 32 53 ls (.int (0) :: st) h := x_iconst hc_32 dX5_fieldThatBegins_52 rfl (by decide)
theorem x_32_53 {ls : List Value} {h : Hp} {v : Int32} : ex 32 53 ls [.int v] h = some (some (.int v), h) := x_iret hc_32 dX5_fieldThatBegins_53 rfl
theorem x_32_54 {ls st : List Value} {h : Hp}  : ex 32 54 ls (st) h = ex 32 55 ls (.int (1) :: st) h := x_iconst hc_32 dX5_fieldThatBegins_54 rfl (by decide)
theorem x_32_55 {ls : List Value} {h : Hp} {v : Int32} : ex 32 55 ls [.int v] h = some (some (.int v), h) := x_iret hc_32 dX5_fieldThatBegins_55 rfl
theorem x_32_56 {ls st : List Value} {h : Hp}  : ex 32 56 ls (st) h = ex 32 57 ls (.int (2) :: st) h := x_iconst hc_32 dX5_fieldThatBegins_56 rfl (by decide)
theorem x_32_57 {ls : List Value} {h : Hp} {v : Int32} : ex 32 57 ls [.int v] h = some (some (.int v), h) := x_iret hc_32 dX5_fieldThatBegins_57 rfl
theorem x_32_58 {ls st : List Value} {h : Hp}  : ex 32 58 ls (st) h = ex 32 59 ls (.int (3) :: st) h := x_iconst hc_32 dX5_fieldThatBegins_58 rfl (by decide)
theorem x_32_59 {ls : List Value} {h : Hp} {v : Int32} : ex 32 59 ls [.int v] h = some (some (.int v), h) := x_iret hc_32 dX5_fieldThatBegins_59 rfl
theorem x_32_60 {ls st : List Value} {h : Hp}  : ex 32 60 ls (st) h = ex 32 61 ls (.int (4) :: st) h := x_iconst hc_32 dX5_fieldThatBegins_60 rfl (by decide)
theorem x_32_61 {ls : List Value} {h : Hp} {v : Int32} : ex 32 61 ls [.int v] h = some (some (.int v), h) := x_iret hc_32 dX5_fieldThatBegins_61 rfl
theorem x_32_62 {ls st : List Value} {h : Hp}  : ex 32 62 ls (st) h = ex 32 63 ls (.int (-1) :: st) h := x_iconst hc_32 dX5_fieldThatBegins_62 rfl (by decide)
theorem x_32_63 {ls : List Value} {h : Hp} {v : Int32} : ex 32 63 ls [.int v] h = some (some (.int v), h) := x_iret hc_32 dX5_fieldThatBegins_63 rfl
theorem x_33_0 {ls st : List Value} {h : Hp}  : ex 33 0 ls (st) h = gI (ldI ls 0) 33 1 ls st h := x_iload_n hc_33 dX5_wordOf_0 rfl rfl
theorem x_33_1 {ls st : List Value} {h : Hp} {x : Int32} : ex 33 1 ls (.int x :: st) h = if x = 0 then ex 33 32 ls st h else if x = 1 then ex 33 35 ls st h else if x = 2 then ex 33 38 ls st h else if x = 3 then ex 33 41 ls st h else ex 33 44 ls st h := by
  rw [x_tbl hc_33 dX5_wordOf_1]
  by_cases h0 : x = 0
  · subst h0; rfl
  by_cases h1 : x = 1
  · subst h1; rfl
  by_cases h2 : x = 2
  · subst h2; rfl
  by_cases h3 : x = 3
  · subst h3; rfl
  have hz : x.toInt < 0 ∨ 3 < x.toInt := by
    have e0 := lv_neT (a := 0) h0 (by decide)
    have e1 := lv_neT (a := 1) h1 (by decide)
    have e2 := lv_neT (a := 2) h2 (by decide)
    have e3 := lv_neT (a := 3) h3 (by decide)
    omega
  rw [if_pos hz, if_neg h0, if_neg h1, if_neg h2, if_neg h3]
  rfl
theorem x_33_32 {ls st : List Value} {h : Hp}  : ex 33 32 ls (st) h = ex 33 34 ls (.ref 704 :: st) h := x_ldcS (q := 4) hc_33 dX5_wordOf_32 rfl (by decide +kernel) (by decide +kernel)
theorem x_33_34 {ls : List Value} {h : Hp} {k : Nat} : ex 33 34 ls [.ref k] h = some (some (.ref k), h) := x_aret hc_33 dX5_wordOf_34 rfl
theorem x_33_35 {ls st : List Value} {h : Hp}  : ex 33 35 ls (st) h = ex 33 37 ls (.ref 705 :: st) h := x_ldcS (q := 5) hc_33 dX5_wordOf_35 rfl (by decide +kernel) (by decide +kernel)
theorem x_33_37 {ls : List Value} {h : Hp} {k : Nat} : ex 33 37 ls [.ref k] h = some (some (.ref k), h) := x_aret hc_33 dX5_wordOf_37 rfl
theorem x_33_38 {ls st : List Value} {h : Hp}  : ex 33 38 ls (st) h = ex 33 40 ls (.ref 706 :: st) h := x_ldcS (q := 6) hc_33 dX5_wordOf_38 rfl (by decide +kernel) (by decide +kernel)
theorem x_33_40 {ls : List Value} {h : Hp} {k : Nat} : ex 33 40 ls [.ref k] h = some (some (.ref k), h) := x_aret hc_33 dX5_wordOf_40 rfl
theorem x_33_41 {ls st : List Value} {h : Hp}  : ex 33 41 ls (st) h = ex 33 43 ls (.ref 707 :: st) h := x_ldcS (q := 7) hc_33 dX5_wordOf_41 rfl (by decide +kernel) (by decide +kernel)
theorem x_33_43 {ls : List Value} {h : Hp} {k : Nat} : ex 33 43 ls [.ref k] h = some (some (.ref k), h) := x_aret hc_33 dX5_wordOf_43 rfl
theorem x_33_44 {ls st : List Value} {h : Hp}  : ex 33 44 ls (st) h = ex 33 46 ls (.ref 708 :: st) h := x_ldcS (q := 8) hc_33 dX5_wordOf_44 rfl (by decide +kernel) (by decide +kernel)
theorem x_33_46 {ls : List Value} {h : Hp} {k : Nat} : ex 33 46 ls [.ref k] h = some (some (.ref k), h) := x_aret hc_33 dX5_wordOf_46 rfl
theorem x_34_0 {ls st : List Value} {h : Hp}  : ex 34 0 ls (st) h = gA (ldA ls 0) 34 1 ls st h := x_aload_n hc_34 dX6_isLoaded_0 rfl rfl
theorem x_34_1 {ls st : List Value} {h : Hp} {k : Nat} : ex 34 1 ls (.ref k :: st) h = if kd k = 6 then ex 34 4 ls (vl h k 1 :: st) h else none := x_getf hc_34 dX6_isLoaded_1 rfl fr_6_15
theorem x_34_4 {ls st : List Value} {h : Hp}  : ex 34 4 ls (st) h = ex 34 5 ls (.int (-1) :: st) h := x_iconst hc_34 dX6_isLoaded_4 rfl (by decide)
theorem x_34_5 {ls st : List Value} {h : Hp} {x z : Int32} : ex 34 5 ls (.int z :: .int x :: st) h = if x = z then ex 34 12 ls st h else ex 34 8 ls st h := x_icmp_eq hc_34 dX6_isLoaded_5 rfl (by decide)
theorem x_34_8 {ls st : List Value} {h : Hp}  : ex 34 8 ls (st) h = ex 34 9 ls (.int (1) :: st) h := x_iconst hc_34 dX6_isLoaded_8 rfl (by decide)
theorem x_34_9 {ls st : List Value} {h : Hp}  : ex 34 9 ls (st) h = ex 34 13 ls st h := x_goto hc_34 dX6_isLoaded_9 (by decide)
theorem x_34_12 {ls st : List Value} {h : Hp}  : ex 34 12 ls (st) h = ex 34 13 ls (.int (0) :: st) h := x_iconst hc_34 dX6_isLoaded_12 rfl (by decide)
theorem x_34_13 {ls : List Value} {h : Hp} {v : Int32} : ex 34 13 ls [.int v] h = if v = 0 ∨ v = 1 then some (some (.int v), h) else none := x_zret hc_34 dX6_isLoaded_13 rfl
theorem x_35_0 {ls st : List Value} {h : Hp}  : ex 35 0 ls (st) h = gA (ldA ls 0) 35 1 ls st h := x_aload_n hc_35 dX6_putOn_0 rfl rfl
theorem x_35_1 {ls st : List Value} {h : Hp}  : ex 35 1 ls (st) h = gI (ldI ls 1) 35 2 ls st h := x_iload_n hc_35 dX6_putOn_1 rfl rfl
theorem x_35_2 {ls st : List Value} {h : Hp} {k : Nat} {x : Int32} : ex 35 2 ls (.int x :: .ref k :: st) h = if kd k = 6 then ex 35 5 ls st (hu h k 1 x) else none := x_putf hc_35 dX6_putOn_2 rfl fr_6_15 (by decide)
theorem x_35_5 {ls st : List Value} {h : Hp}  : ex 35 5 ls (st) h = gA (ldA ls 0) 35 6 ls st h := x_aload_n hc_35 dX6_putOn_5 rfl rfl
theorem x_35_6 {ls st : List Value} {h : Hp}  : ex 35 6 ls (st) h = gI (ldI ls 2) 35 7 ls st h := x_iload_n hc_35 dX6_putOn_6 rfl rfl
theorem x_35_7 {ls st : List Value} {h : Hp} {k : Nat} {x : Int32} : ex 35 7 ls (.int x :: .ref k :: st) h = if kd k = 6 then ex 35 10 ls st (hu h k 2 x) else none := x_putf hc_35 dX6_putOn_7 rfl fr_6_18 (by decide)
theorem x_35_10 {ls st : List Value} {h : Hp}  : ex 35 10 ls (st) h = gA (ldA ls 0) 35 11 ls st h := x_aload_n hc_35 dX6_putOn_10 rfl rfl
theorem x_35_11 {ls st : List Value} {h : Hp}  : ex 35 11 ls (st) h = gI (ldI ls 3) 35 12 ls st h := x_iload_n hc_35 dX6_putOn_11 rfl rfl
theorem x_35_12 {ls st : List Value} {h : Hp} {k : Nat} {x : Int32} : ex 35 12 ls (.int x :: .ref k :: st) h = if kd k = 6 then ex 35 15 ls st (hu h k 3 x) else none := x_putf hc_35 dX6_putOn_12 rfl fr_6_21 (by decide)
theorem x_35_15 {ls st : List Value} {h : Hp}  : ex 35 15 ls (st) h = gA (ldA ls 0) 35 16 ls st h := x_aload_n hc_35 dX6_putOn_15 rfl rfl
theorem x_35_16 {ls st : List Value} {h : Hp}  : ex 35 16 ls (st) h = gI (ldI ls 1) 35 17 ls st h := x_iload_n hc_35 dX6_putOn_16 rfl rfl
theorem x_35_17 {ls st : List Value} {h : Hp}  : ex 35 17 ls (st) h = ex 35 18 ls (.int (2) :: st) h := x_iconst hc_35 dX6_putOn_17 rfl (by decide)
theorem x_35_18 {ls st : List Value} {h : Hp} {x z : Int32} : ex 35 18 ls (.int z :: .int x :: st) h = if x = z then ex 35 21 ls st h else ex 35 26 ls st h := x_icmp_ne hc_35 dX6_putOn_18 rfl (by decide)
theorem x_35_21 {ls st : List Value} {h : Hp}  : ex 35 21 ls (st) h = gI (ldI ls 4) 35 23 ls st h := x_iload hc_35 dX6_putOn_21 rfl
theorem x_35_23 {ls st : List Value} {h : Hp}  : ex 35 23 ls (st) h = ex 35 27 ls st h := x_goto hc_35 dX6_putOn_23 (by decide)
theorem x_35_26 {ls st : List Value} {h : Hp}  : ex 35 26 ls (st) h = ex 35 27 ls (.int (-1) :: st) h := x_iconst hc_35 dX6_putOn_26 rfl (by decide)
theorem x_35_27 {ls st : List Value} {h : Hp} {k : Nat} {x : Int32} : ex 35 27 ls (.int x :: .ref k :: st) h = if kd k = 6 then ex 35 30 ls st (hu h k 4 x) else none := x_putf hc_35 dX6_putOn_27 rfl fr_6_24 (by decide)
theorem x_35_30 {ls st : List Value} {h : Hp}  : ex 35 30 ls (st) h = gA (ldA ls 0) 35 31 ls st h := x_aload_n hc_35 dX6_putOn_30 rfl rfl
theorem x_35_31 {ls st : List Value} {h : Hp}  : ex 35 31 ls (st) h = ex 35 32 ls (.int (0) :: st) h := x_iconst hc_35 dX6_putOn_31 rfl (by decide)
theorem x_35_32 {ls st : List Value} {h : Hp} {k : Nat} {x : Int32} : ex 35 32 ls (.int x :: .ref k :: st) h = if kd k = 6 ∧ (x = 0 ∨ x = 1) then ex 35 35 ls st (hu h k 5 x) else none := x_putz hc_35 dX6_putOn_32 rfl fr_6_27 (by decide)
theorem x_35_35 {ls : List Value} {h : Hp} : ex 35 35 ls [] h = some (none, h) := x_vret hc_35 dX6_putOn_35 rfl
theorem x_36_0 {ls st : List Value} {h : Hp}  : ex 36 0 ls (st) h = gI (ldI ls 1) 36 1 ls st h := x_iload_n hc_36 dX6_ofLoad_0 rfl rfl
theorem x_36_1 {ls st : List Value} {h : Hp} {x : Int32} : ex 36 1 ls (.int x :: st) h = if x = 1 then ex 36 28 ls st h else if x = 2 then ex 36 33 ls st h else if x = 3 then ex 36 38 ls st h else ex 36 43 ls st h := by
  rw [x_tbl hc_36 dX6_ofLoad_1]
  by_cases h0 : x = 1
  · subst h0; rfl
  by_cases h1 : x = 2
  · subst h1; rfl
  by_cases h2 : x = 3
  · subst h2; rfl
  have hz : x.toInt < 1 ∨ 3 < x.toInt := by
    have e0 := lv_neT (a := 1) h0 (by decide)
    have e1 := lv_neT (a := 2) h1 (by decide)
    have e2 := lv_neT (a := 3) h2 (by decide)
    omega
  rw [if_pos hz, if_neg h0, if_neg h1, if_neg h2]
  rfl
theorem x_36_28 {ls st : List Value} {h : Hp}  : ex 36 28 ls (st) h = gA (ldA ls 0) 36 29 ls st h := x_aload_n hc_36 dX6_ofLoad_28 rfl rfl
theorem x_36_29 {ls st : List Value} {h : Hp} {k : Nat} : ex 36 29 ls (.ref k :: st) h = if kd k = 6 then ex 36 32 ls (vl h k 1 :: st) h else none := x_getf hc_36 dX6_ofLoad_29 rfl fr_6_15
theorem x_36_32 {ls : List Value} {h : Hp} {v : Int32} : ex 36 32 ls [.int v] h = some (some (.int v), h) := x_iret hc_36 dX6_ofLoad_32 rfl
theorem x_36_33 {ls st : List Value} {h : Hp}  : ex 36 33 ls (st) h = gA (ldA ls 0) 36 34 ls st h := x_aload_n hc_36 dX6_ofLoad_33 rfl rfl
theorem x_36_34 {ls st : List Value} {h : Hp} {k : Nat} : ex 36 34 ls (.ref k :: st) h = if kd k = 6 then ex 36 37 ls (vl h k 2 :: st) h else none := x_getf hc_36 dX6_ofLoad_34 rfl fr_6_18
theorem x_36_37 {ls : List Value} {h : Hp} {v : Int32} : ex 36 37 ls [.int v] h = some (some (.int v), h) := x_iret hc_36 dX6_ofLoad_37 rfl
theorem x_36_38 {ls st : List Value} {h : Hp}  : ex 36 38 ls (st) h = gA (ldA ls 0) 36 39 ls st h := x_aload_n hc_36 dX6_ofLoad_38 rfl rfl
theorem x_36_39 {ls st : List Value} {h : Hp} {k : Nat} : ex 36 39 ls (.ref k :: st) h = if kd k = 6 then ex 36 42 ls (vl h k 3 :: st) h else none := x_getf hc_36 dX6_ofLoad_39 rfl fr_6_21
theorem x_36_42 {ls : List Value} {h : Hp} {v : Int32} : ex 36 42 ls [.int v] h = some (some (.int v), h) := x_iret hc_36 dX6_ofLoad_42 rfl
theorem x_36_43 {ls st : List Value} {h : Hp}  : ex 36 43 ls (st) h = gA (ldA ls 0) 36 44 ls st h := x_aload_n hc_36 dX6_ofLoad_43 rfl rfl
theorem x_36_44 {ls st : List Value} {h : Hp} {k : Nat} : ex 36 44 ls (.ref k :: st) h = if kd k = 6 then ex 36 47 ls (vl h k 4 :: st) h else none := x_getf hc_36 dX6_ofLoad_44 rfl fr_6_24
theorem x_36_47 {ls : List Value} {h : Hp} {v : Int32} : ex 36 47 ls [.int v] h = some (some (.int v), h) := x_iret hc_36 dX6_ofLoad_47 rfl
theorem x_37_0 {ls st : List Value} {h : Hp}  : ex 37 0 ls (st) h = gA (ldA ls 0) 37 1 ls st h := x_aload_n hc_37 dX6_liveHour_0 rfl rfl
theorem x_37_1 {ls st : List Value} {h : Hp} {k : Nat}  : ex 37 1 ls (.ref k :: st) h = if kd k = 6 ∧ st.length ≤ 4 then gC (ex 34 0 [.ref k] [] h) 37 4 ls st else none := x_callV (as := []) hc_37 dX6_liveHour_1 rfl mr_6_31 rfl rfl rfl (by decide) (by decide)
theorem x_37_4 {ls st : List Value} {h : Hp} {x : Int32} : ex 37 4 ls (.int x :: st) h = if x = 0 then ex 37 7 ls st h else ex 37 9 ls st h := x_if_ne hc_37 dX6_liveHour_4 rfl (by decide)
theorem x_37_7 {ls st : List Value} {h : Hp}  : ex 37 7 ls (st) h = ex 37 8 ls (.int (0) :: st) h := x_iconst hc_37 dX6_liveHour_7 rfl (by decide)
theorem x_37_8 {ls : List Value} {h : Hp} {v : Int32} : ex 37 8 ls [.int v] h = some (some (.int v), h) := x_iret hc_37 dX6_liveHour_8 rfl
theorem x_37_9 {ls st : List Value} {h : Hp}  : ex 37 9 ls (st) h = gA (ldA ls 0) 37 10 ls st h := x_aload_n hc_37 dX6_liveHour_9 rfl rfl
theorem x_37_10 {ls st : List Value} {h : Hp} {k : Nat} : ex 37 10 ls (.ref k :: st) h = if kd k = 6 then ex 37 13 ls (vl h k 3 :: st) h else none := x_getf hc_37 dX6_liveHour_10 rfl fr_6_21
theorem x_37_13 {ls st : List Value} {h : Hp}  : ex 37 13 ls (st) h = gA (ldA ls 0) 37 14 ls st h := x_aload_n hc_37 dX6_liveHour_13 rfl rfl
theorem x_37_14 {ls st : List Value} {h : Hp}  : ex 37 14 ls (st) h = gA (ldA ls 1) 37 15 ls st h := x_aload_n hc_37 dX6_liveHour_14 rfl rfl
theorem x_37_15 {ls st : List Value} {h : Hp} {k : Nat} {a0 : Nat} : ex 37 15 ls (.ref a0 :: .ref k :: st) h = if kd k = 6 ∧ st.length ≤ 4 then gC (ex 38 0 [.ref k, .ref a0] [] h) 37 18 ls st else none := x_callV (as := [.ref a0]) hc_37 dX6_liveHour_15 rfl mr_6_35 rfl rfl rfl (by decide) (by decide)
theorem x_37_18 {ls st : List Value} {h : Hp} {a0 : Int32} {a1 : Int32} : ex 37 18 ls (.int a1 :: .int a0 :: st) h = if st.length ≤ 4 then gC (ex 148 0 [.int a0, .int a1] [] h) 37 21 ls st else none := x_callS (as := [.int a0, .int a1]) hc_37 dX6_liveHour_18 rfl mr_6_39 rfl rfl rfl (by decide)
theorem x_37_21 {ls st : List Value} {h : Hp} {x : Int32} : ex 37 21 ls (.int x :: st) h = ex 37 22 (ls.set 2 (.int x)) st h := x_istore_n hc_37 dX6_liveHour_21 rfl rfl (by decide)
theorem x_37_22 {ls st : List Value} {h : Hp}  : ex 37 22 ls (st) h = gA (ldA ls 0) 37 23 ls st h := x_aload_n hc_37 dX6_liveHour_22 rfl rfl
theorem x_37_23i {ls st : List Value} {h : Hp} {u : Int32} : ex 37 23 ls (.int u :: st) h = ex 37 24 ls (.int u :: .int u :: st) h := x_dup_i hc_37 dX6_liveHour_23 rfl
theorem x_37_23a {ls st : List Value} {h : Hp} {u : Nat} : ex 37 23 ls (.ref u :: st) h = ex 37 24 ls (.ref u :: .ref u :: st) h := x_dup_a hc_37 dX6_liveHour_23 rfl
theorem x_37_24 {ls st : List Value} {h : Hp} {k : Nat} : ex 37 24 ls (.ref k :: st) h = if kd k = 6 then ex 37 27 ls (vl h k 3 :: st) h else none := x_getf hc_37 dX6_liveHour_24 rfl fr_6_21
theorem x_37_27 {ls st : List Value} {h : Hp}  : ex 37 27 ls (st) h = gI (ldI ls 2) 37 28 ls st h := x_iload_n hc_37 dX6_liveHour_27 rfl rfl
theorem x_37_28 {ls st : List Value} {h : Hp} {a b : Int32} : ex 37 28 ls (.int b :: .int a :: st) h = ex 37 29 ls (.int (a - b) :: st) h := x_isub hc_37 dX6_liveHour_28 rfl
theorem x_37_29 {ls st : List Value} {h : Hp} {k : Nat} {x : Int32} : ex 37 29 ls (.int x :: .ref k :: st) h = if kd k = 6 then ex 37 32 ls st (hu h k 3 x) else none := x_putf hc_37 dX6_liveHour_29 rfl fr_6_21 (by decide)
theorem x_37_32 {ls st : List Value} {h : Hp}  : ex 37 32 ls (st) h = gI (ldI ls 2) 37 33 ls st h := x_iload_n hc_37 dX6_liveHour_32 rfl rfl
theorem x_37_33 {ls st : List Value} {h : Hp}  : ex 37 33 ls (st) h = gA (ldA ls 0) 37 34 ls st h := x_aload_n hc_37 dX6_liveHour_33 rfl rfl
theorem x_37_34 {ls st : List Value} {h : Hp} {k : Nat} : ex 37 34 ls (.ref k :: st) h = if kd k = 6 then ex 37 37 ls (vl h k 2 :: st) h else none := x_getf hc_37 dX6_liveHour_34 rfl fr_6_18
theorem x_37_37 {ls st : List Value} {h : Hp} {a b : Int32} : ex 37 37 ls (.int b :: .int a :: st) h = ex 37 38 ls (.int (a * b) :: st) h := x_imul hc_37 dX6_liveHour_37 rfl
theorem x_37_38 {ls : List Value} {h : Hp} {v : Int32} : ex 37 38 ls [.int v] h = some (some (.int v), h) := x_iret hc_37 dX6_liveHour_38 rfl
theorem x_38_0 {ls st : List Value} {h : Hp}  : ex 38 0 ls (st) h = gA (ldA ls 0) 38 1 ls st h := x_aload_n hc_38 dX6_lossOfHour_0 rfl rfl
theorem x_38_1 {ls st : List Value} {h : Hp} {k : Nat} : ex 38 1 ls (.ref k :: st) h = if kd k = 6 then ex 38 4 ls (vl h k 1 :: st) h else none := x_getf hc_38 dX6_lossOfHour_1 rfl fr_6_15
theorem x_38_4 {ls st : List Value} {h : Hp} {x : Int32} : ex 38 4 ls (.int x :: st) h = if x = 1 then ex 38 36 ls st h else if x = 2 then ex 38 47 ls st h else if x = 3 then ex 38 67 ls st h else if x = 4 then ex 38 79 ls st h else ex 38 117 ls st h := by
  rw [x_tbl hc_38 dX6_lossOfHour_4]
  by_cases h0 : x = 1
  · subst h0; rfl
  by_cases h1 : x = 2
  · subst h1; rfl
  by_cases h2 : x = 3
  · subst h2; rfl
  by_cases h3 : x = 4
  · subst h3; rfl
  have hz : x.toInt < 1 ∨ 4 < x.toInt := by
    have e0 := lv_neT (a := 1) h0 (by decide)
    have e1 := lv_neT (a := 2) h1 (by decide)
    have e2 := lv_neT (a := 3) h2 (by decide)
    have e3 := lv_neT (a := 4) h3 (by decide)
    omega
  rw [if_pos hz, if_neg h0, if_neg h1, if_neg h2, if_neg h3]
  rfl
theorem x_38_36 {ls st : List Value} {h : Hp}  : ex 38 36 ls (st) h = ex 38 37 ls (.int (2) :: st) h := x_iconst hc_38 dX6_lossOfHour_36 rfl (by decide)
theorem x_38_37 {ls st : List Value} {h : Hp}  : ex 38 37 ls (st) h = gA (ldA ls 0) 38 38 ls st h := x_aload_n hc_38 dX6_lossOfHour_37 rfl rfl
theorem x_38_38 {ls st : List Value} {h : Hp} {k : Nat} : ex 38 38 ls (.ref k :: st) h = if kd k = 6 then ex 38 41 ls (vl h k 0 :: st) h else none := x_getf hc_38 dX6_lossOfHour_38 rfl fr_6_9
theorem x_38_41 {ls st : List Value} {h : Hp}  : ex 38 41 ls (st) h = gA (ldA ls 1) 38 42 ls st h := x_aload_n hc_38 dX6_lossOfHour_41 rfl rfl
theorem x_38_42 {ls st : List Value} {h : Hp} {a0 : Int32} {a1 : Nat} : ex 38 42 ls (.ref a1 :: .int a0 :: st) h = if st.length ≤ 4 then gC (ex 39 0 [.int a0, .ref a1] [] h) 38 45 ls st else none := x_callS (as := [.int a0, .ref a1]) hc_38 dX6_lossOfHour_42 rfl mr_6_45 rfl rfl rfl (by decide)
theorem x_38_45 {ls st : List Value} {h : Hp} {a b : Int32} : ex 38 45 ls (.int b :: .int a :: st) h = ex 38 46 ls (.int (a * b) :: st) h := x_imul hc_38 dX6_lossOfHour_45 rfl
theorem x_38_46 {ls : List Value} {h : Hp} {v : Int32} : ex 38 46 ls [.int v] h = some (some (.int v), h) := x_iret hc_38 dX6_lossOfHour_46 rfl
theorem x_38_47 {ls st : List Value} {h : Hp}  : ex 38 47 ls (st) h = gA (ldA ls 0) 38 48 ls st h := x_aload_n hc_38 dX6_lossOfHour_47 rfl rfl
theorem x_38_48 {ls st : List Value} {h : Hp} {k : Nat}  : ex 38 48 ls (.ref k :: st) h = if kd k = 6 ∧ st.length ≤ 4 then gC (ex 40 0 [.ref k] [] h) 38 51 ls st else none := x_callV (as := []) hc_38 dX6_lossOfHour_48 rfl mr_6_49 rfl rfl rfl (by decide) (by decide)
theorem x_38_51 {ls st : List Value} {h : Hp} {x : Int32} : ex 38 51 ls (.int x :: st) h = if x = 0 then ex 38 58 ls st h else ex 38 54 ls st h := x_if_eq hc_38 dX6_lossOfHour_51 rfl (by decide)
theorem x_38_54 {ls st : List Value} {h : Hp}  : ex 38 54 ls (st) h = ex 38 55 ls (.int (0) :: st) h := x_iconst hc_38 dX6_lossOfHour_54 rfl (by decide)
theorem x_38_55 {ls st : List Value} {h : Hp}  : ex 38 55 ls (st) h = ex 38 66 ls st h := x_goto hc_38 dX6_lossOfHour_55 (by decide)
theorem x_38_58 {ls st : List Value} {h : Hp}  : ex 38 58 ls (st) h = gA (ldA ls 0) 38 59 ls st h := x_aload_n hc_38 dX6_lossOfHour_58 rfl rfl
theorem x_38_59 {ls st : List Value} {h : Hp} {k : Nat} : ex 38 59 ls (.ref k :: st) h = if kd k = 6 then ex 38 62 ls (vl h k 0 :: st) h else none := x_getf hc_38 dX6_lossOfHour_59 rfl fr_6_9
theorem x_38_62 {ls st : List Value} {h : Hp}  : ex 38 62 ls (st) h = gA (ldA ls 1) 38 63 ls st h := x_aload_n hc_38 dX6_lossOfHour_62 rfl rfl
theorem x_38_63 {ls st : List Value} {h : Hp} {a0 : Int32} {a1 : Nat} : ex 38 63 ls (.ref a1 :: .int a0 :: st) h = if st.length ≤ 4 then gC (ex 39 0 [.int a0, .ref a1] [] h) 38 66 ls st else none := x_callS (as := [.int a0, .ref a1]) hc_38 dX6_lossOfHour_63 rfl mr_6_45 rfl rfl rfl (by decide)
theorem x_38_66 {ls : List Value} {h : Hp} {v : Int32} : ex 38 66 ls [.int v] h = some (some (.int v), h) := x_iret hc_38 dX6_lossOfHour_66 rfl
theorem x_38_67 {ls st : List Value} {h : Hp}  : ex 38 67 ls (st) h = gA (ldA ls 0) 38 68 ls st h := x_aload_n hc_38 dX6_lossOfHour_67 rfl rfl
theorem x_38_68 {ls st : List Value} {h : Hp} {k : Nat} : ex 38 68 ls (.ref k :: st) h = if kd k = 6 then ex 38 71 ls (vl h k 0 :: st) h else none := x_getf hc_38 dX6_lossOfHour_68 rfl fr_6_9
theorem x_38_71 {ls st : List Value} {h : Hp}  : ex 38 71 ls (st) h = ex 38 73 ls (.int (60) :: st) h := x_bipush hc_38 dX6_lossOfHour_71 rfl (by decide)
theorem x_38_73 {ls st : List Value} {h : Hp} {a b : Int32} : ex 38 73 ls (.int b :: .int a :: st) h = ex 38 74 ls (.int (a - b) :: st) h := x_isub hc_38 dX6_lossOfHour_73 rfl
theorem x_38_74 {ls st : List Value} {h : Hp}  : ex 38 74 ls (st) h = gA (ldA ls 1) 38 75 ls st h := x_aload_n hc_38 dX6_lossOfHour_74 rfl rfl
theorem x_38_75 {ls st : List Value} {h : Hp} {a0 : Int32} {a1 : Nat} : ex 38 75 ls (.ref a1 :: .int a0 :: st) h = if st.length ≤ 4 then gC (ex 39 0 [.int a0, .ref a1] [] h) 38 78 ls st else none := x_callS (as := [.int a0, .ref a1]) hc_38 dX6_lossOfHour_75 rfl mr_6_45 rfl rfl rfl (by decide)
theorem x_38_78 {ls : List Value} {h : Hp} {v : Int32} : ex 38 78 ls [.int v] h = some (some (.int v), h) := x_iret hc_38 dX6_lossOfHour_78 rfl
theorem x_38_79 {ls st : List Value} {h : Hp}  : ex 38 79 ls (st) h = gA (ldA ls 0) 38 80 ls st h := x_aload_n hc_38 dX6_lossOfHour_79 rfl rfl
theorem x_38_80 {ls st : List Value} {h : Hp}  : ex 38 80 ls (st) h = gA (ldA ls 0) 38 81 ls st h := x_aload_n hc_38 dX6_lossOfHour_80 rfl rfl
theorem x_38_81 {ls st : List Value} {h : Hp} {k : Nat} : ex 38 81 ls (.ref k :: st) h = if kd k = 6 then ex 38 84 ls (vl h k 5 :: st) h else none := x_getf hc_38 dX6_lossOfHour_81 rfl fr_6_27
theorem x_38_84 {ls st : List Value} {h : Hp} {x : Int32} : ex 38 84 ls (.int x :: st) h = if x = 0 then ex 38 87 ls st h else ex 38 91 ls st h := x_if_ne hc_38 dX6_lossOfHour_84 rfl (by decide)
theorem x_38_87 {ls st : List Value} {h : Hp}  : ex 38 87 ls (st) h = ex 38 88 ls (.int (1) :: st) h := x_iconst hc_38 dX6_lossOfHour_87 rfl (by decide)
theorem x_38_88 {ls st : List Value} {h : Hp}  : ex 38 88 ls (st) h = ex 38 92 ls st h := x_goto hc_38 dX6_lossOfHour_88 (by decide)
theorem x_38_91 {ls st : List Value} {h : Hp}  : ex 38 91 ls (st) h = ex 38 92 ls (.int (0) :: st) h := x_iconst hc_38 dX6_lossOfHour_91 rfl (by decide)
theorem x_38_92 {ls st : List Value} {h : Hp} {k : Nat} {x : Int32} : ex 38 92 ls (.int x :: .ref k :: st) h = if kd k = 6 ∧ (x = 0 ∨ x = 1) then ex 38 95 ls st (hu h k 5 x) else none := x_putz hc_38 dX6_lossOfHour_92 rfl fr_6_27 (by decide)
theorem x_38_95 {ls st : List Value} {h : Hp}  : ex 38 95 ls (st) h = gA (ldA ls 0) 38 96 ls st h := x_aload_n hc_38 dX6_lossOfHour_95 rfl rfl
theorem x_38_96 {ls st : List Value} {h : Hp} {k : Nat} : ex 38 96 ls (.ref k :: st) h = if kd k = 6 then ex 38 99 ls (vl h k 5 :: st) h else none := x_getf hc_38 dX6_lossOfHour_96 rfl fr_6_27
theorem x_38_99 {ls st : List Value} {h : Hp} {x : Int32} : ex 38 99 ls (.int x :: st) h = if x = 0 then ex 38 106 ls st h else ex 38 102 ls st h := x_if_eq hc_38 dX6_lossOfHour_99 rfl (by decide)
theorem x_38_102 {ls st : List Value} {h : Hp}  : ex 38 102 ls (st) h = ex 38 103 ls (.int (2) :: st) h := x_iconst hc_38 dX6_lossOfHour_102 rfl (by decide)
theorem x_38_103 {ls st : List Value} {h : Hp}  : ex 38 103 ls (st) h = ex 38 107 ls st h := x_goto hc_38 dX6_lossOfHour_103 (by decide)
theorem x_38_106 {ls st : List Value} {h : Hp}  : ex 38 106 ls (st) h = ex 38 107 ls (.int (1) :: st) h := x_iconst hc_38 dX6_lossOfHour_106 rfl (by decide)
theorem x_38_107 {ls st : List Value} {h : Hp}  : ex 38 107 ls (st) h = gA (ldA ls 0) 38 108 ls st h := x_aload_n hc_38 dX6_lossOfHour_107 rfl rfl
theorem x_38_108 {ls st : List Value} {h : Hp} {k : Nat} : ex 38 108 ls (.ref k :: st) h = if kd k = 6 then ex 38 111 ls (vl h k 0 :: st) h else none := x_getf hc_38 dX6_lossOfHour_108 rfl fr_6_9
theorem x_38_111 {ls st : List Value} {h : Hp}  : ex 38 111 ls (st) h = gA (ldA ls 1) 38 112 ls st h := x_aload_n hc_38 dX6_lossOfHour_111 rfl rfl
theorem x_38_112 {ls st : List Value} {h : Hp} {a0 : Int32} {a1 : Nat} : ex 38 112 ls (.ref a1 :: .int a0 :: st) h = if st.length ≤ 4 then gC (ex 39 0 [.int a0, .ref a1] [] h) 38 115 ls st else none := x_callS (as := [.int a0, .ref a1]) hc_38 dX6_lossOfHour_112 rfl mr_6_45 rfl rfl rfl (by decide)
theorem x_38_115 {ls st : List Value} {h : Hp} {a b : Int32} : ex 38 115 ls (.int b :: .int a :: st) h = ex 38 116 ls (.int (a * b) :: st) h := x_imul hc_38 dX6_lossOfHour_115 rfl
theorem x_38_116 {ls : List Value} {h : Hp} {v : Int32} : ex 38 116 ls [.int v] h = some (some (.int v), h) := x_iret hc_38 dX6_lossOfHour_116 rfl
theorem x_38_117 {ls st : List Value} {h : Hp}  : ex 38 117 ls (st) h = gA (ldA ls 0) 38 118 ls st h := x_aload_n hc_38 dX6_lossOfHour_117 rfl rfl
theorem x_38_118 {ls st : List Value} {h : Hp} {k : Nat} : ex 38 118 ls (.ref k :: st) h = if kd k = 6 then ex 38 121 ls (vl h k 0 :: st) h else none := x_getf hc_38 dX6_lossOfHour_118 rfl fr_6_9
theorem x_38_121 {ls st : List Value} {h : Hp}  : ex 38 121 ls (st) h = gA (ldA ls 1) 38 122 ls st h := x_aload_n hc_38 dX6_lossOfHour_121 rfl rfl
theorem x_38_122 {ls st : List Value} {h : Hp} {a0 : Int32} {a1 : Nat} : ex 38 122 ls (.ref a1 :: .int a0 :: st) h = if st.length ≤ 4 then gC (ex 39 0 [.int a0, .ref a1] [] h) 38 125 ls st else none := x_callS (as := [.int a0, .ref a1]) hc_38 dX6_lossOfHour_122 rfl mr_6_45 rfl rfl rfl (by decide)
theorem x_38_125 {ls : List Value} {h : Hp} {v : Int32} : ex 38 125 ls [.int v] h = some (some (.int v), h) := x_iret hc_38 dX6_lossOfHour_125 rfl
theorem x_39_0 {ls st : List Value} {h : Hp}  : ex 39 0 ls (st) h = gA (ldA ls 1) 39 1 ls st h := x_aload_n hc_39 dX6_lossAt_0 rfl rfl
theorem x_39_1 {ls st : List Value} {h : Hp}  : ex 39 1 ls (st) h = ex 39 2 ls (.int (0) :: st) h := x_iconst hc_39 dX6_lossAt_1 rfl (by decide)
theorem x_39_2 {ls st : List Value} {h : Hp}  : ex 39 2 ls (st) h = gA (ldA ls 1) 39 3 ls st h := x_aload_n hc_39 dX6_lossAt_2 rfl rfl
theorem x_39_3 {ls st : List Value} {h : Hp} {k : Nat} : ex 39 3 ls (.ref k :: st) h = if 9 ≤ kd k ∧ kd k ≤ 10 then ex 39 4 ls (.int (Int32.ofNat (ln k)) :: st) h else none := x_alen hc_39 dX6_lossAt_3 rfl
theorem x_39_4 {ls st : List Value} {h : Hp}  : ex 39 4 ls (st) h = ex 39 5 ls (.int (1) :: st) h := x_iconst hc_39 dX6_lossAt_4 rfl (by decide)
theorem x_39_5 {ls st : List Value} {h : Hp} {a b : Int32} : ex 39 5 ls (.int b :: .int a :: st) h = ex 39 6 ls (.int (a - b) :: st) h := x_isub hc_39 dX6_lossAt_5 rfl
theorem x_39_6 {ls st : List Value} {h : Hp}  : ex 39 6 ls (st) h = gI (ldI ls 0) 39 7 ls st h := x_iload_n hc_39 dX6_lossAt_6 rfl rfl
theorem x_39_7 {ls st : List Value} {h : Hp}  : ex 39 7 ls (st) h = ex 39 9 ls (.int (50) :: st) h := x_bipush hc_39 dX6_lossAt_7 rfl (by decide)
theorem x_39_9 {ls st : List Value} {h : Hp} {a b : Int32} : ex 39 9 ls (.int b :: .int a :: st) h = if b = 0 then none else ex 39 10 ls (.int (a / b) :: st) h := x_idiv hc_39 dX6_lossAt_9 rfl
theorem x_39_10 {ls st : List Value} {h : Hp} {a0 : Int32} {a1 : Int32} : ex 39 10 ls (.int a1 :: .int a0 :: st) h = if st.length ≤ 4 then gC (ex 148 0 [.int a0, .int a1] [] h) 39 13 ls st else none := x_callS (as := [.int a0, .int a1]) hc_39 dX6_lossAt_10 rfl mr_6_39 rfl rfl rfl (by decide)
theorem x_39_13 {ls st : List Value} {h : Hp} {a0 : Int32} {a1 : Int32} : ex 39 13 ls (.int a1 :: .int a0 :: st) h = if st.length ≤ 4 then gC (ex 149 0 [.int a0, .int a1] [] h) 39 16 ls st else none := x_callS (as := [.int a0, .int a1]) hc_39 dX6_lossAt_13 rfl mr_6_52 rfl rfl rfl (by decide)
theorem x_39_16 {ls st : List Value} {h : Hp} {k : Nat} {x : Int32} : ex 39 16 ls (.int x :: .ref k :: st) h = if kd k = 9 ∧ x.toNatClampNeg < ln k ∧ 0 ≤ x then ex 39 17 ls (.int (h k x.toNatClampNeg) :: st) h else none := x_iald hc_39 dX6_lossAt_16 rfl
theorem x_39_17 {ls : List Value} {h : Hp} {v : Int32} : ex 39 17 ls [.int v] h = some (some (.int v), h) := x_iret hc_39 dX6_lossAt_17 rfl
theorem x_40_0 {ls st : List Value} {h : Hp}  : ex 40 0 ls (st) h = gA (ldA ls 0) 40 1 ls st h := x_aload_n hc_40 dX6_ripen_0 rfl rfl
theorem x_40_1 {ls st : List Value} {h : Hp} {k : Nat} : ex 40 1 ls (.ref k :: st) h = if kd k = 6 then ex 40 4 ls (vl h k 4 :: st) h else none := x_getf hc_40 dX6_ripen_1 rfl fr_6_24
theorem x_40_4 {ls st : List Value} {h : Hp} {x : Int32} : ex 40 4 ls (.int x :: st) h = if 0 < x then ex 40 9 ls st h else ex 40 7 ls st h := x_if_gt hc_40 dX6_ripen_4 rfl (by decide)
theorem x_40_7 {ls st : List Value} {h : Hp}  : ex 40 7 ls (st) h = ex 40 8 ls (.int (0) :: st) h := x_iconst hc_40 dX6_ripen_7 rfl (by decide)
theorem x_40_8 {ls : List Value} {h : Hp} {v : Int32} : ex 40 8 ls [.int v] h = if v = 0 ∨ v = 1 then some (some (.int v), h) else none := x_zret hc_40 dX6_ripen_8 rfl
theorem x_40_9 {ls st : List Value} {h : Hp}  : ex 40 9 ls (st) h = gA (ldA ls 0) 40 10 ls st h := x_aload_n hc_40 dX6_ripen_9 rfl rfl
theorem x_40_10 {ls st : List Value} {h : Hp} {k : Nat} : ex 40 10 ls (.ref k :: st) h = if kd k = 6 then ex 40 13 ls (vl h k 0 :: st) h else none := x_getf hc_40 dX6_ripen_10 rfl fr_6_9
theorem x_40_13 {ls st : List Value} {h : Hp}  : ex 40 13 ls (st) h = ex 40 15 ls (.int (100) :: st) h := x_bipush hc_40 dX6_ripen_13 rfl (by decide)
theorem x_40_15 {ls st : List Value} {h : Hp} {x z : Int32} : ex 40 15 ls (.int z :: .int x :: st) h = if x < z then ex 40 28 ls st h else ex 40 18 ls st h := x_icmp_lt hc_40 dX6_ripen_15 rfl (by decide)
theorem x_40_18 {ls st : List Value} {h : Hp}  : ex 40 18 ls (st) h = gA (ldA ls 0) 40 19 ls st h := x_aload_n hc_40 dX6_ripen_18 rfl rfl
theorem x_40_19i {ls st : List Value} {h : Hp} {u : Int32} : ex 40 19 ls (.int u :: st) h = ex 40 20 ls (.int u :: .int u :: st) h := x_dup_i hc_40 dX6_ripen_19 rfl
theorem x_40_19a {ls st : List Value} {h : Hp} {u : Nat} : ex 40 19 ls (.ref u :: st) h = ex 40 20 ls (.ref u :: .ref u :: st) h := x_dup_a hc_40 dX6_ripen_19 rfl
theorem x_40_20 {ls st : List Value} {h : Hp} {k : Nat} : ex 40 20 ls (.ref k :: st) h = if kd k = 6 then ex 40 23 ls (vl h k 4 :: st) h else none := x_getf hc_40 dX6_ripen_20 rfl fr_6_24
theorem x_40_23 {ls st : List Value} {h : Hp}  : ex 40 23 ls (st) h = ex 40 24 ls (.int (1) :: st) h := x_iconst hc_40 dX6_ripen_23 rfl (by decide)
theorem x_40_24 {ls st : List Value} {h : Hp} {a b : Int32} : ex 40 24 ls (.int b :: .int a :: st) h = ex 40 25 ls (.int (a - b) :: st) h := x_isub hc_40 dX6_ripen_24 rfl
theorem x_40_25 {ls st : List Value} {h : Hp} {k : Nat} {x : Int32} : ex 40 25 ls (.int x :: .ref k :: st) h = if kd k = 6 then ex 40 28 ls st (hu h k 4 x) else none := x_putf hc_40 dX6_ripen_25 rfl fr_6_24 (by decide)
theorem x_40_28 {ls st : List Value} {h : Hp}  : ex 40 28 ls (st) h = ex 40 29 ls (.int (1) :: st) h := x_iconst hc_40 dX6_ripen_28 rfl (by decide)
theorem x_40_29 {ls : List Value} {h : Hp} {v : Int32} : ex 40 29 ls [.int v] h = if v = 0 ∨ v = 1 then some (some (.int v), h) else none := x_zret hc_40 dX6_ripen_29 rfl
theorem x_41_0 {ls st : List Value} {h : Hp}  : ex 41 0 ls (st) h = gA (ldA ls 0) 41 1 ls st h := x_aload_n hc_41 dX6_takeOff_0 rfl rfl
theorem x_41_1 {ls st : List Value} {h : Hp}  : ex 41 1 ls (st) h = ex 41 2 ls (.int (-1) :: st) h := x_iconst hc_41 dX6_takeOff_1 rfl (by decide)
theorem x_41_2 {ls st : List Value} {h : Hp} {k : Nat} {x : Int32} : ex 41 2 ls (.int x :: .ref k :: st) h = if kd k = 6 then ex 41 5 ls st (hu h k 1 x) else none := x_putf hc_41 dX6_takeOff_2 rfl fr_6_15 (by decide)
theorem x_41_5 {ls st : List Value} {h : Hp}  : ex 41 5 ls (st) h = gA (ldA ls 0) 41 6 ls st h := x_aload_n hc_41 dX6_takeOff_5 rfl rfl
theorem x_41_6 {ls st : List Value} {h : Hp}  : ex 41 6 ls (st) h = ex 41 7 ls (.int (0) :: st) h := x_iconst hc_41 dX6_takeOff_6 rfl (by decide)
theorem x_41_7 {ls st : List Value} {h : Hp} {k : Nat} {x : Int32} : ex 41 7 ls (.int x :: .ref k :: st) h = if kd k = 6 then ex 41 10 ls st (hu h k 2 x) else none := x_putf hc_41 dX6_takeOff_7 rfl fr_6_18 (by decide)
theorem x_41_10 {ls st : List Value} {h : Hp}  : ex 41 10 ls (st) h = gA (ldA ls 0) 41 11 ls st h := x_aload_n hc_41 dX6_takeOff_10 rfl rfl
theorem x_41_11 {ls st : List Value} {h : Hp}  : ex 41 11 ls (st) h = ex 41 12 ls (.int (0) :: st) h := x_iconst hc_41 dX6_takeOff_11 rfl (by decide)
theorem x_41_12 {ls st : List Value} {h : Hp} {k : Nat} {x : Int32} : ex 41 12 ls (.int x :: .ref k :: st) h = if kd k = 6 then ex 41 15 ls st (hu h k 3 x) else none := x_putf hc_41 dX6_takeOff_12 rfl fr_6_21 (by decide)
theorem x_41_15 {ls : List Value} {h : Hp} : ex 41 15 ls [] h = some (none, h) := x_vret hc_41 dX6_takeOff_15 rfl
theorem x_42_0 {ls st : List Value} {h : Hp}  : ex 42 0 ls (st) h = gA (ldA ls 0) 42 1 ls st h := x_aload_n hc_42 dX6_becomeLike_0 rfl rfl
theorem x_42_1 {ls st : List Value} {h : Hp}  : ex 42 1 ls (st) h = gA (ldA ls 1) 42 2 ls st h := x_aload_n hc_42 dX6_becomeLike_1 rfl rfl
theorem x_42_2 {ls st : List Value} {h : Hp} {k : Nat} : ex 42 2 ls (.ref k :: st) h = if kd k = 6 then ex 42 5 ls (vl h k 0 :: st) h else none := x_getf hc_42 dX6_becomeLike_2 rfl fr_6_9
theorem x_42_5 {ls st : List Value} {h : Hp} {k : Nat} {x : Int32} : ex 42 5 ls (.int x :: .ref k :: st) h = if kd k = 6 then ex 42 8 ls st (hu h k 0 x) else none := x_putf hc_42 dX6_becomeLike_5 rfl fr_6_9 (by decide)
theorem x_42_8 {ls st : List Value} {h : Hp}  : ex 42 8 ls (st) h = gA (ldA ls 0) 42 9 ls st h := x_aload_n hc_42 dX6_becomeLike_8 rfl rfl
theorem x_42_9 {ls st : List Value} {h : Hp}  : ex 42 9 ls (st) h = gA (ldA ls 1) 42 10 ls st h := x_aload_n hc_42 dX6_becomeLike_9 rfl rfl
theorem x_42_10 {ls st : List Value} {h : Hp} {k : Nat} : ex 42 10 ls (.ref k :: st) h = if kd k = 6 then ex 42 13 ls (vl h k 1 :: st) h else none := x_getf hc_42 dX6_becomeLike_10 rfl fr_6_15
theorem x_42_13 {ls st : List Value} {h : Hp} {k : Nat} {x : Int32} : ex 42 13 ls (.int x :: .ref k :: st) h = if kd k = 6 then ex 42 16 ls st (hu h k 1 x) else none := x_putf hc_42 dX6_becomeLike_13 rfl fr_6_15 (by decide)
theorem x_42_16 {ls st : List Value} {h : Hp}  : ex 42 16 ls (st) h = gA (ldA ls 0) 42 17 ls st h := x_aload_n hc_42 dX6_becomeLike_16 rfl rfl
theorem x_42_17 {ls st : List Value} {h : Hp}  : ex 42 17 ls (st) h = gA (ldA ls 1) 42 18 ls st h := x_aload_n hc_42 dX6_becomeLike_17 rfl rfl
theorem x_42_18 {ls st : List Value} {h : Hp} {k : Nat} : ex 42 18 ls (.ref k :: st) h = if kd k = 6 then ex 42 21 ls (vl h k 2 :: st) h else none := x_getf hc_42 dX6_becomeLike_18 rfl fr_6_18
theorem x_42_21 {ls st : List Value} {h : Hp} {k : Nat} {x : Int32} : ex 42 21 ls (.int x :: .ref k :: st) h = if kd k = 6 then ex 42 24 ls st (hu h k 2 x) else none := x_putf hc_42 dX6_becomeLike_21 rfl fr_6_18 (by decide)
theorem x_42_24 {ls st : List Value} {h : Hp}  : ex 42 24 ls (st) h = gA (ldA ls 0) 42 25 ls st h := x_aload_n hc_42 dX6_becomeLike_24 rfl rfl
theorem x_42_25 {ls st : List Value} {h : Hp}  : ex 42 25 ls (st) h = gA (ldA ls 1) 42 26 ls st h := x_aload_n hc_42 dX6_becomeLike_25 rfl rfl
theorem x_42_26 {ls st : List Value} {h : Hp} {k : Nat} : ex 42 26 ls (.ref k :: st) h = if kd k = 6 then ex 42 29 ls (vl h k 3 :: st) h else none := x_getf hc_42 dX6_becomeLike_26 rfl fr_6_21
theorem x_42_29 {ls st : List Value} {h : Hp} {k : Nat} {x : Int32} : ex 42 29 ls (.int x :: .ref k :: st) h = if kd k = 6 then ex 42 32 ls st (hu h k 3 x) else none := x_putf hc_42 dX6_becomeLike_29 rfl fr_6_21 (by decide)
theorem x_42_32 {ls st : List Value} {h : Hp}  : ex 42 32 ls (st) h = gA (ldA ls 0) 42 33 ls st h := x_aload_n hc_42 dX6_becomeLike_32 rfl rfl
theorem x_42_33 {ls st : List Value} {h : Hp}  : ex 42 33 ls (st) h = gA (ldA ls 1) 42 34 ls st h := x_aload_n hc_42 dX6_becomeLike_33 rfl rfl
theorem x_42_34 {ls st : List Value} {h : Hp} {k : Nat} : ex 42 34 ls (.ref k :: st) h = if kd k = 6 then ex 42 37 ls (vl h k 4 :: st) h else none := x_getf hc_42 dX6_becomeLike_34 rfl fr_6_24
theorem x_42_37 {ls st : List Value} {h : Hp} {k : Nat} {x : Int32} : ex 42 37 ls (.int x :: .ref k :: st) h = if kd k = 6 then ex 42 40 ls st (hu h k 4 x) else none := x_putf hc_42 dX6_becomeLike_37 rfl fr_6_24 (by decide)
theorem x_42_40 {ls st : List Value} {h : Hp}  : ex 42 40 ls (st) h = gA (ldA ls 0) 42 41 ls st h := x_aload_n hc_42 dX6_becomeLike_40 rfl rfl
theorem x_42_41 {ls st : List Value} {h : Hp}  : ex 42 41 ls (st) h = gA (ldA ls 1) 42 42 ls st h := x_aload_n hc_42 dX6_becomeLike_41 rfl rfl
theorem x_42_42 {ls st : List Value} {h : Hp} {k : Nat} : ex 42 42 ls (.ref k :: st) h = if kd k = 6 then ex 42 45 ls (vl h k 5 :: st) h else none := x_getf hc_42 dX6_becomeLike_42 rfl fr_6_27
theorem x_42_45 {ls st : List Value} {h : Hp} {k : Nat} {x : Int32} : ex 42 45 ls (.int x :: .ref k :: st) h = if kd k = 6 ∧ (x = 0 ∨ x = 1) then ex 42 48 ls st (hu h k 5 x) else none := x_putz hc_42 dX6_becomeLike_45 rfl fr_6_27 (by decide)
theorem x_42_48 {ls : List Value} {h : Hp} : ex 42 48 ls [] h = some (none, h) := x_vret hc_42 dX6_becomeLike_48 rfl
theorem x_43_0 {ls st : List Value} {h : Hp}  : ex 43 0 ls (st) h = gI (ldI ls 1) 43 1 ls st h := x_iload_n hc_43 dX7_station_0 rfl rfl
theorem x_43_1 {ls st : List Value} {h : Hp}  : ex 43 1 ls (st) h = ex 43 2 ls (.int (1) :: st) h := x_iconst hc_43 dX7_station_1 rfl (by decide)
theorem x_43_2 {ls st : List Value} {h : Hp}  : ex 43 2 ls (st) h = ex 43 4 ls (.int (12) :: st) h := x_bipush hc_43 dX7_station_2 rfl (by decide)
theorem x_43_4 {ls st : List Value} {h : Hp} {a0 : Int32} {a1 : Int32} {a2 : Int32} : ex 43 4 ls (.int a2 :: .int a1 :: .int a0 :: st) h = if st.length ≤ 4 then gC (ex 44 0 [.int a0, .int a1, .int a2] [] h) 43 7 ls st else none := x_callS (as := [.int a0, .int a1, .int a2]) hc_43 dX7_station_4 rfl mr_7_100 rfl rfl rfl (by decide)
theorem x_43_7 {ls st : List Value} {h : Hp} {x : Int32} : ex 43 7 ls (.int x :: st) h = if x = 0 then ex 43 10 ls st h else ex 43 17 ls st h := x_if_ne hc_43 dX7_station_7 rfl (by decide)
theorem x_43_10 {ls st : List Value} {h : Hp}  : ex 43 10 ls (st) h = gA (ldA ls 0) 43 11 ls st h := x_aload_n hc_43 dX7_station_10 rfl rfl
theorem x_43_11 {ls st : List Value} {h : Hp}  : ex 43 11 ls (st) h = ex 43 13 ls (.int (-7) :: st) h := x_bipush hc_43 dX7_station_11 rfl (by decide)
theorem x_43_13 {ls st : List Value} {h : Hp} {k : Nat} {a0 : Int32} : ex 43 13 ls (.int a0 :: .ref k :: st) h = if kd k = 7 ∧ st.length ≤ 4 then gC (ex 45 0 [.ref k, .int a0] [] h) 43 16 ls st else none := x_callV (as := [.int a0]) hc_43 dX7_station_13 rfl mr_7_104 rfl rfl rfl (by decide) (by decide)
theorem x_43_16 {ls : List Value} {h : Hp} {v : Int32} : ex 43 16 ls [.int v] h = some (some (.int v), h) := x_iret hc_43 dX7_station_16 rfl
theorem x_43_17 {ls st : List Value} {h : Hp}  : ex 43 17 ls (st) h = gA (ldA ls 0) 43 18 ls st h := x_aload_n hc_43 dX7_station_17 rfl rfl
theorem x_43_18 {ls st : List Value} {h : Hp} {k : Nat} : ex 43 18 ls (.ref k :: st) h = if kd k = 7 then ex 43 21 ls (vl h k 11 :: st) h else none := x_getf hc_43 dX7_station_18 rfl fr_7_76
theorem x_43_21 {ls st : List Value} {h : Hp}  : ex 43 21 ls (st) h = ex 43 23 ls (.int (8) :: st) h := x_bipush hc_43 dX7_station_21 rfl (by decide)
theorem x_43_23 {ls st : List Value} {h : Hp} {x z : Int32} : ex 43 23 ls (.int z :: .int x :: st) h = if x < z then ex 43 33 ls st h else ex 43 26 ls st h := x_icmp_lt hc_43 dX7_station_23 rfl (by decide)
theorem x_43_26 {ls st : List Value} {h : Hp}  : ex 43 26 ls (st) h = gA (ldA ls 0) 43 27 ls st h := x_aload_n hc_43 dX7_station_26 rfl rfl
theorem x_43_27 {ls st : List Value} {h : Hp}  : ex 43 27 ls (st) h = ex 43 29 ls (.int (-8) :: st) h := x_bipush hc_43 dX7_station_27 rfl (by decide)
theorem x_43_29 {ls st : List Value} {h : Hp} {k : Nat} {a0 : Int32} : ex 43 29 ls (.int a0 :: .ref k :: st) h = if kd k = 7 ∧ st.length ≤ 4 then gC (ex 45 0 [.ref k, .int a0] [] h) 43 32 ls st else none := x_callV (as := [.int a0]) hc_43 dX7_station_29 rfl mr_7_104 rfl rfl rfl (by decide) (by decide)
theorem x_43_32 {ls : List Value} {h : Hp} {v : Int32} : ex 43 32 ls [.int v] h = some (some (.int v), h) := x_iret hc_43 dX7_station_32 rfl
theorem x_43_33 {ls st : List Value} {h : Hp}  : ex 43 33 ls (st) h = gA (ldA ls 0) 43 34 ls st h := x_aload_n hc_43 dX7_station_33 rfl rfl
theorem x_43_34 {ls st : List Value} {h : Hp} {k : Nat} : ex 43 34 ls (.ref k :: st) h = if kd k = 7 then ex 43 37 ls (vl h k 0 :: st) h else none := x_getf hc_43 dX7_station_34 rfl fr_7_11
theorem x_43_37 {ls st : List Value} {h : Hp}  : ex 43 37 ls (st) h = gA (ldA ls 0) 43 38 ls st h := x_aload_n hc_43 dX7_station_37 rfl rfl
theorem x_43_38 {ls st : List Value} {h : Hp} {k : Nat} : ex 43 38 ls (.ref k :: st) h = if kd k = 7 then ex 43 41 ls (vl h k 11 :: st) h else none := x_getf hc_43 dX7_station_38 rfl fr_7_76
theorem x_43_41 {ls st : List Value} {h : Hp}  : ex 43 41 ls (st) h = ex 43 42 ls (.int (1) :: st) h := x_iconst hc_43 dX7_station_41 rfl (by decide)
theorem x_43_42 {ls st : List Value} {h : Hp} {a b : Int32} : ex 43 42 ls (.int b :: .int a :: st) h = ex 43 43 ls (.int (a - b) :: st) h := x_isub hc_43 dX7_station_42 rfl
theorem x_43_43 {ls st : List Value} {h : Hp} {k : Nat} {x : Int32} : ex 43 43 ls (.int x :: .ref k :: st) h = if (11 ≤ kd k ∧ kd k ≤ 14) ∧ x.toNatClampNeg < ln k ∧ 0 ≤ x then gA (rf k x.toNatClampNeg) 43 44 ls st h else none := x_aald hc_43 dX7_station_43 rfl
theorem x_43_44 {ls st : List Value} {h : Hp}  : ex 43 44 ls (st) h = gI (ldI ls 1) 43 45 ls st h := x_iload_n hc_43 dX7_station_44 rfl rfl
theorem x_43_45 {ls st : List Value} {h : Hp} {k : Nat} {x : Int32} : ex 43 45 ls (.int x :: .ref k :: st) h = if kd k = 4 then ex 43 48 ls st (hu h k 7 x) else none := x_putf hc_43 dX7_station_45 rfl fr_7_97 (by decide)
theorem x_43_48 {ls st : List Value} {h : Hp}  : ex 43 48 ls (st) h = gA (ldA ls 0) 43 49 ls st h := x_aload_n hc_43 dX7_station_48 rfl rfl
theorem x_43_49i {ls st : List Value} {h : Hp} {u : Int32} : ex 43 49 ls (.int u :: st) h = ex 43 50 ls (.int u :: .int u :: st) h := x_dup_i hc_43 dX7_station_49 rfl
theorem x_43_49a {ls st : List Value} {h : Hp} {u : Nat} : ex 43 49 ls (.ref u :: st) h = ex 43 50 ls (.ref u :: .ref u :: st) h := x_dup_a hc_43 dX7_station_49 rfl
theorem x_43_50 {ls st : List Value} {h : Hp} {k : Nat} : ex 43 50 ls (.ref k :: st) h = if kd k = 7 then ex 43 53 ls (vl h k 11 :: st) h else none := x_getf hc_43 dX7_station_50 rfl fr_7_76
theorem x_43_53 {ls st : List Value} {h : Hp}  : ex 43 53 ls (st) h = ex 43 54 ls (.int (1) :: st) h := x_iconst hc_43 dX7_station_53 rfl (by decide)
theorem x_43_54 {ls st : List Value} {h : Hp} {a b : Int32} : ex 43 54 ls (.int b :: .int a :: st) h = ex 43 55 ls (.int (a + b) :: st) h := x_iadd hc_43 dX7_station_54 rfl
theorem x_43_55 {ls st : List Value} {h : Hp} {k : Nat} {x : Int32} : ex 43 55 ls (.int x :: .ref k :: st) h = if kd k = 7 then ex 43 58 ls st (hu h k 11 x) else none := x_putf hc_43 dX7_station_55 rfl fr_7_76 (by decide)
theorem x_43_58 {ls st : List Value} {h : Hp}  : ex 43 58 ls (st) h = gA (ldA ls 0) 43 59 ls st h := x_aload_n hc_43 dX7_station_58 rfl rfl
theorem x_43_59 {ls st : List Value} {h : Hp} {k : Nat} : ex 43 59 ls (.ref k :: st) h = if kd k = 7 then ex 43 62 ls (vl h k 11 :: st) h else none := x_getf hc_43 dX7_station_59 rfl fr_7_76
theorem x_43_62 {ls : List Value} {h : Hp} {v : Int32} : ex 43 62 ls [.int v] h = some (some (.int v), h) := x_iret hc_43 dX7_station_62 rfl
theorem x_44_0 {ls st : List Value} {h : Hp}  : ex 44 0 ls (st) h = gI (ldI ls 0) 44 1 ls st h := x_iload_n hc_44 dX7_within_0 rfl rfl
theorem x_44_1 {ls st : List Value} {h : Hp}  : ex 44 1 ls (st) h = gI (ldI ls 1) 44 2 ls st h := x_iload_n hc_44 dX7_within_1 rfl rfl
theorem x_44_2 {ls st : List Value} {h : Hp} {x z : Int32} : ex 44 2 ls (.int z :: .int x :: st) h = if x < z then ex 44 14 ls st h else ex 44 5 ls st h := x_icmp_lt hc_44 dX7_within_2 rfl (by decide)
theorem x_44_5 {ls st : List Value} {h : Hp}  : ex 44 5 ls (st) h = gI (ldI ls 0) 44 6 ls st h := x_iload_n hc_44 dX7_within_5 rfl rfl
theorem x_44_6 {ls st : List Value} {h : Hp}  : ex 44 6 ls (st) h = gI (ldI ls 2) 44 7 ls st h := x_iload_n hc_44 dX7_within_6 rfl rfl
theorem x_44_7 {ls st : List Value} {h : Hp} {x z : Int32} : ex 44 7 ls (.int z :: .int x :: st) h = if z < x then ex 44 14 ls st h else ex 44 10 ls st h := x_icmp_gt hc_44 dX7_within_7 rfl (by decide)
theorem x_44_10 {ls st : List Value} {h : Hp}  : ex 44 10 ls (st) h = ex 44 11 ls (.int (1) :: st) h := x_iconst hc_44 dX7_within_10 rfl (by decide)
theorem x_44_11 {ls st : List Value} {h : Hp}  : ex 44 11 ls (st) h = ex 44 15 ls st h := x_goto hc_44 dX7_within_11 (by decide)
theorem x_44_14 {ls st : List Value} {h : Hp}  : ex 44 14 ls (st) h = ex 44 15 ls (.int (0) :: st) h := x_iconst hc_44 dX7_within_14 rfl (by decide)
theorem x_44_15 {ls : List Value} {h : Hp} {v : Int32} : ex 44 15 ls [.int v] h = if v = 0 ∨ v = 1 then some (some (.int v), h) else none := x_zret hc_44 dX7_within_15 rfl
theorem x_45_0 {ls st : List Value} {h : Hp}  : ex 45 0 ls (st) h = gI (ldI ls 1) 45 1 ls st h := x_iload_n hc_45 dX7_refuse_0 rfl rfl
theorem x_45_1 {ls st : List Value} {h : Hp}  : ex 45 1 ls (st) h = ex 45 3 ls (.int (-8) :: st) h := x_bipush hc_45 dX7_refuse_1 rfl (by decide)
theorem x_45_3 {ls st : List Value} {h : Hp}  : ex 45 3 ls (st) h = ex 45 5 ls (.int (-2) :: st) h := x_bipush hc_45 dX7_refuse_3 rfl (by decide)
theorem x_45_5 {ls st : List Value} {h : Hp} {a0 : Int32} {a1 : Int32} {a2 : Int32} : ex 45 5 ls (.int a2 :: .int a1 :: .int a0 :: st) h = if st.length ≤ 4 then gC (ex 44 0 [.int a0, .int a1, .int a2] [] h) 45 8 ls st else none := x_callS (as := [.int a0, .int a1, .int a2]) hc_45 dX7_refuse_5 rfl mr_7_100 rfl rfl rfl (by decide)
theorem x_45_8 {ls st : List Value} {h : Hp} {x : Int32} : ex 45 8 ls (.int x :: st) h = if x = 0 then ex 45 22 ls st h else ex 45 11 ls st h := x_if_eq hc_45 dX7_refuse_8 rfl (by decide)
theorem x_45_11 {ls st : List Value} {h : Hp}  : ex 45 11 ls (st) h = gA (ldA ls 0) 45 12 ls st h := x_aload_n hc_45 dX7_refuse_11 rfl rfl
theorem x_45_12 {ls st : List Value} {h : Hp} {k : Nat} : ex 45 12 ls (.ref k :: st) h = if kd k = 7 then ex 45 15 ls (vl h k 8 :: st) h else none := x_getf hc_45 dX7_refuse_12 rfl fr_7_63
theorem x_45_15 {ls st : List Value} {h : Hp}  : ex 45 15 ls (st) h = gI (ldI ls 1) 45 16 ls st h := x_iload_n hc_45 dX7_refuse_15 rfl rfl
theorem x_45_16 {ls st : List Value} {h : Hp} {a : Int32} : ex 45 16 ls (.int a :: st) h = ex 45 17 ls (.int (-a) :: st) h := x_ineg hc_45 dX7_refuse_16 rfl
theorem x_45_17ii {ls st : List Value} {h : Hp} {u : Int32} {v : Int32} : ex 45 17 ls (.int u :: .int v :: st) h = ex 45 18 ls (.int u :: .int v :: .int u :: .int v :: st) h := x_dup2_ii hc_45 dX7_refuse_17 rfl
theorem x_45_17ia {ls st : List Value} {h : Hp} {u : Int32} {v : Nat} : ex 45 17 ls (.int u :: .ref v :: st) h = ex 45 18 ls (.int u :: .ref v :: .int u :: .ref v :: st) h := x_dup2_ia hc_45 dX7_refuse_17 rfl
theorem x_45_17ai {ls st : List Value} {h : Hp} {u : Nat} {v : Int32} : ex 45 17 ls (.ref u :: .int v :: st) h = ex 45 18 ls (.ref u :: .int v :: .ref u :: .int v :: st) h := x_dup2_ai hc_45 dX7_refuse_17 rfl
theorem x_45_17aa {ls st : List Value} {h : Hp} {u : Nat} {v : Nat} : ex 45 17 ls (.ref u :: .ref v :: st) h = ex 45 18 ls (.ref u :: .ref v :: .ref u :: .ref v :: st) h := x_dup2_aa hc_45 dX7_refuse_17 rfl
theorem x_45_18 {ls st : List Value} {h : Hp} {k : Nat} {x : Int32} : ex 45 18 ls (.int x :: .ref k :: st) h = if kd k = 9 ∧ x.toNatClampNeg < ln k ∧ 0 ≤ x then ex 45 19 ls (.int (h k x.toNatClampNeg) :: st) h else none := x_iald hc_45 dX7_refuse_18 rfl
theorem x_45_19 {ls st : List Value} {h : Hp}  : ex 45 19 ls (st) h = ex 45 20 ls (.int (1) :: st) h := x_iconst hc_45 dX7_refuse_19 rfl (by decide)
theorem x_45_20 {ls st : List Value} {h : Hp} {a b : Int32} : ex 45 20 ls (.int b :: .int a :: st) h = ex 45 21 ls (.int (a + b) :: st) h := x_iadd hc_45 dX7_refuse_20 rfl
theorem x_45_21 {ls st : List Value} {h : Hp} {k : Nat} {x u : Int32} : ex 45 21 ls (.int u :: .int x :: .ref k :: st) h = if kd k = 9 ∧ x.toNatClampNeg < ln k ∧ 0 ≤ x then ex 45 22 ls st (hu h k x.toNatClampNeg u) else none := x_iast hc_45 dX7_refuse_21 rfl
theorem x_45_22 {ls st : List Value} {h : Hp}  : ex 45 22 ls (st) h = gI (ldI ls 1) 45 23 ls st h := x_iload_n hc_45 dX7_refuse_22 rfl rfl
theorem x_45_23 {ls : List Value} {h : Hp} {v : Int32} : ex 45 23 ls [.int v] h = some (some (.int v), h) := x_iret hc_45 dX7_refuse_23 rfl
theorem x_46_0 {ls st : List Value} {h : Hp}  : ex 46 0 ls (st) h = gA (ldA ls 0) 46 1 ls st h := x_aload_n hc_46 dX7_stock_0 rfl rfl
theorem x_46_1 {ls st : List Value} {h : Hp}  : ex 46 1 ls (st) h = gI (ldI ls 1) 46 2 ls st h := x_iload_n hc_46 dX7_stock_1 rfl rfl
theorem x_46_2 {ls st : List Value} {h : Hp} {k : Nat} {a0 : Int32} : ex 46 2 ls (.int a0 :: .ref k :: st) h = if kd k = 7 ∧ st.length ≤ 4 then gC (ex 47 0 [.ref k, .int a0] [] h) 46 5 ls st else none := x_callV (as := [.int a0]) hc_46 dX7_stock_2 rfl mr_7_108 rfl rfl rfl (by decide) (by decide)
theorem x_46_5 {ls st : List Value} {h : Hp} {x : Int32} : ex 46 5 ls (.int x :: st) h = if x = 0 then ex 46 8 ls st h else ex 46 15 ls st h := x_if_ne hc_46 dX7_stock_5 rfl (by decide)
theorem x_46_8 {ls st : List Value} {h : Hp}  : ex 46 8 ls (st) h = gA (ldA ls 0) 46 9 ls st h := x_aload_n hc_46 dX7_stock_8 rfl rfl
theorem x_46_9 {ls st : List Value} {h : Hp}  : ex 46 9 ls (st) h = ex 46 11 ls (.int (-3) :: st) h := x_bipush hc_46 dX7_stock_9 rfl (by decide)
theorem x_46_11 {ls st : List Value} {h : Hp} {k : Nat} {a0 : Int32} : ex 46 11 ls (.int a0 :: .ref k :: st) h = if kd k = 7 ∧ st.length ≤ 4 then gC (ex 45 0 [.ref k, .int a0] [] h) 46 14 ls st else none := x_callV (as := [.int a0]) hc_46 dX7_stock_11 rfl mr_7_104 rfl rfl rfl (by decide) (by decide)
theorem x_46_14 {ls : List Value} {h : Hp} {v : Int32} : ex 46 14 ls [.int v] h = some (some (.int v), h) := x_iret hc_46 dX7_stock_14 rfl
theorem x_46_15 {ls st : List Value} {h : Hp}  : ex 46 15 ls (st) h = gI (ldI ls 2) 46 16 ls st h := x_iload_n hc_46 dX7_stock_15 rfl rfl
theorem x_46_16 {ls st : List Value} {h : Hp}  : ex 46 16 ls (st) h = ex 46 19 ls (.int (-10000) :: st) h := x_sipush hc_46 dX7_stock_16 rfl (by decide)
theorem x_46_19 {ls st : List Value} {h : Hp}  : ex 46 19 ls (st) h = ex 46 22 ls (.int (10000) :: st) h := x_sipush hc_46 dX7_stock_19 rfl (by decide)
theorem x_46_22 {ls st : List Value} {h : Hp} {a0 : Int32} {a1 : Int32} {a2 : Int32} : ex 46 22 ls (.int a2 :: .int a1 :: .int a0 :: st) h = if st.length ≤ 4 then gC (ex 44 0 [.int a0, .int a1, .int a2] [] h) 46 25 ls st else none := x_callS (as := [.int a0, .int a1, .int a2]) hc_46 dX7_stock_22 rfl mr_7_100 rfl rfl rfl (by decide)
theorem x_46_25 {ls st : List Value} {h : Hp} {x : Int32} : ex 46 25 ls (.int x :: st) h = if x = 0 then ex 46 48 ls st h else ex 46 28 ls st h := x_if_eq hc_46 dX7_stock_25 rfl (by decide)
theorem x_46_28 {ls st : List Value} {h : Hp}  : ex 46 28 ls (st) h = gA (ldA ls 0) 46 29 ls st h := x_aload_n hc_46 dX7_stock_28 rfl rfl
theorem x_46_29 {ls st : List Value} {h : Hp} {k : Nat} : ex 46 29 ls (.ref k :: st) h = if kd k = 7 then ex 46 32 ls (vl h k 5 :: st) h else none := x_getf hc_46 dX7_stock_29 rfl fr_7_44
theorem x_46_32 {ls st : List Value} {h : Hp} {k : Nat} : ex 46 32 ls (.ref k :: st) h = if kd k = 1 then ex 46 35 ls (vl h k 0 :: st) h else none := x_getf hc_46 dX7_stock_32 rfl fr_7_112
theorem x_46_35 {ls st : List Value} {h : Hp}  : ex 46 35 ls (st) h = gI (ldI ls 1) 46 36 ls st h := x_iload_n hc_46 dX7_stock_35 rfl rfl
theorem x_46_36 {ls st : List Value} {h : Hp} {k : Nat} {x : Int32} : ex 46 36 ls (.int x :: .ref k :: st) h = if kd k = 9 ∧ x.toNatClampNeg < ln k ∧ 0 ≤ x then ex 46 37 ls (.int (h k x.toNatClampNeg) :: st) h else none := x_iald hc_46 dX7_stock_36 rfl
theorem x_46_37 {ls st : List Value} {h : Hp}  : ex 46 37 ls (st) h = gI (ldI ls 2) 46 38 ls st h := x_iload_n hc_46 dX7_stock_37 rfl rfl
theorem x_46_38 {ls st : List Value} {h : Hp} {a b : Int32} : ex 46 38 ls (.int b :: .int a :: st) h = ex 46 39 ls (.int (a + b) :: st) h := x_iadd hc_46 dX7_stock_38 rfl
theorem x_46_39 {ls st : List Value} {h : Hp}  : ex 46 39 ls (st) h = ex 46 40 ls (.int (0) :: st) h := x_iconst hc_46 dX7_stock_39 rfl (by decide)
theorem x_46_40 {ls st : List Value} {h : Hp}  : ex 46 40 ls (st) h = ex 46 42 ls (.int 100000 :: st) h := x_ldc hc_46 dX7_stock_40 rfl (by decide +kernel)
theorem x_46_42 {ls st : List Value} {h : Hp} {a0 : Int32} {a1 : Int32} {a2 : Int32} : ex 46 42 ls (.int a2 :: .int a1 :: .int a0 :: st) h = if st.length ≤ 4 then gC (ex 44 0 [.int a0, .int a1, .int a2] [] h) 46 45 ls st else none := x_callS (as := [.int a0, .int a1, .int a2]) hc_46 dX7_stock_42 rfl mr_7_100 rfl rfl rfl (by decide)
theorem x_46_45 {ls st : List Value} {h : Hp} {x : Int32} : ex 46 45 ls (.int x :: st) h = if x = 0 then ex 46 48 ls st h else ex 46 55 ls st h := x_if_ne hc_46 dX7_stock_45 rfl (by decide)
theorem x_46_48 {ls st : List Value} {h : Hp}  : ex 46 48 ls (st) h = gA (ldA ls 0) 46 49 ls st h := x_aload_n hc_46 dX7_stock_48 rfl rfl
theorem x_46_49 {ls st : List Value} {h : Hp}  : ex 46 49 ls (st) h = ex 46 51 ls (.int (-7) :: st) h := x_bipush hc_46 dX7_stock_49 rfl (by decide)
theorem x_46_51 {ls st : List Value} {h : Hp} {k : Nat} {a0 : Int32} : ex 46 51 ls (.int a0 :: .ref k :: st) h = if kd k = 7 ∧ st.length ≤ 4 then gC (ex 45 0 [.ref k, .int a0] [] h) 46 54 ls st else none := x_callV (as := [.int a0]) hc_46 dX7_stock_51 rfl mr_7_104 rfl rfl rfl (by decide) (by decide)
theorem x_46_54 {ls : List Value} {h : Hp} {v : Int32} : ex 46 54 ls [.int v] h = some (some (.int v), h) := x_iret hc_46 dX7_stock_54 rfl
theorem x_46_55 {ls st : List Value} {h : Hp}  : ex 46 55 ls (st) h = gA (ldA ls 0) 46 56 ls st h := x_aload_n hc_46 dX7_stock_55 rfl rfl
theorem x_46_56 {ls st : List Value} {h : Hp} {k : Nat} : ex 46 56 ls (.ref k :: st) h = if kd k = 7 then ex 46 59 ls (vl h k 5 :: st) h else none := x_getf hc_46 dX7_stock_56 rfl fr_7_44
theorem x_46_59 {ls st : List Value} {h : Hp} {k : Nat} : ex 46 59 ls (.ref k :: st) h = if kd k = 1 then ex 46 62 ls (vl h k 0 :: st) h else none := x_getf hc_46 dX7_stock_59 rfl fr_7_112
theorem x_46_62 {ls st : List Value} {h : Hp}  : ex 46 62 ls (st) h = gI (ldI ls 1) 46 63 ls st h := x_iload_n hc_46 dX7_stock_62 rfl rfl
theorem x_46_63ii {ls st : List Value} {h : Hp} {u : Int32} {v : Int32} : ex 46 63 ls (.int u :: .int v :: st) h = ex 46 64 ls (.int u :: .int v :: .int u :: .int v :: st) h := x_dup2_ii hc_46 dX7_stock_63 rfl
theorem x_46_63ia {ls st : List Value} {h : Hp} {u : Int32} {v : Nat} : ex 46 63 ls (.int u :: .ref v :: st) h = ex 46 64 ls (.int u :: .ref v :: .int u :: .ref v :: st) h := x_dup2_ia hc_46 dX7_stock_63 rfl
theorem x_46_63ai {ls st : List Value} {h : Hp} {u : Nat} {v : Int32} : ex 46 63 ls (.ref u :: .int v :: st) h = ex 46 64 ls (.ref u :: .int v :: .ref u :: .int v :: st) h := x_dup2_ai hc_46 dX7_stock_63 rfl
theorem x_46_63aa {ls st : List Value} {h : Hp} {u : Nat} {v : Nat} : ex 46 63 ls (.ref u :: .ref v :: st) h = ex 46 64 ls (.ref u :: .ref v :: .ref u :: .ref v :: st) h := x_dup2_aa hc_46 dX7_stock_63 rfl
theorem x_46_64 {ls st : List Value} {h : Hp} {k : Nat} {x : Int32} : ex 46 64 ls (.int x :: .ref k :: st) h = if kd k = 9 ∧ x.toNatClampNeg < ln k ∧ 0 ≤ x then ex 46 65 ls (.int (h k x.toNatClampNeg) :: st) h else none := x_iald hc_46 dX7_stock_64 rfl
theorem x_46_65 {ls st : List Value} {h : Hp}  : ex 46 65 ls (st) h = gI (ldI ls 2) 46 66 ls st h := x_iload_n hc_46 dX7_stock_65 rfl rfl
theorem x_46_66 {ls st : List Value} {h : Hp} {a b : Int32} : ex 46 66 ls (.int b :: .int a :: st) h = ex 46 67 ls (.int (a + b) :: st) h := x_iadd hc_46 dX7_stock_66 rfl
theorem x_46_67 {ls st : List Value} {h : Hp} {k : Nat} {x u : Int32} : ex 46 67 ls (.int u :: .int x :: .ref k :: st) h = if kd k = 9 ∧ x.toNatClampNeg < ln k ∧ 0 ≤ x then ex 46 68 ls st (hu h k x.toNatClampNeg u) else none := x_iast hc_46 dX7_stock_67 rfl
theorem x_46_68 {ls st : List Value} {h : Hp}  : ex 46 68 ls (st) h = gA (ldA ls 0) 46 69 ls st h := x_aload_n hc_46 dX7_stock_68 rfl rfl
theorem x_46_69 {ls st : List Value} {h : Hp} {k : Nat} : ex 46 69 ls (.ref k :: st) h = if kd k = 7 then ex 46 72 ls (vl h k 5 :: st) h else none := x_getf hc_46 dX7_stock_69 rfl fr_7_44
theorem x_46_72 {ls st : List Value} {h : Hp} {k : Nat} : ex 46 72 ls (.ref k :: st) h = if kd k = 1 then ex 46 75 ls (vl h k 0 :: st) h else none := x_getf hc_46 dX7_stock_72 rfl fr_7_112
theorem x_46_75 {ls st : List Value} {h : Hp}  : ex 46 75 ls (st) h = gI (ldI ls 1) 46 76 ls st h := x_iload_n hc_46 dX7_stock_75 rfl rfl
theorem x_46_76 {ls st : List Value} {h : Hp} {k : Nat} {x : Int32} : ex 46 76 ls (.int x :: .ref k :: st) h = if kd k = 9 ∧ x.toNatClampNeg < ln k ∧ 0 ≤ x then ex 46 77 ls (.int (h k x.toNatClampNeg) :: st) h else none := x_iald hc_46 dX7_stock_76 rfl
theorem x_46_77 {ls : List Value} {h : Hp} {v : Int32} : ex 46 77 ls [.int v] h = some (some (.int v), h) := x_iret hc_46 dX7_stock_77 rfl
theorem x_47_0 {ls st : List Value} {h : Hp}  : ex 47 0 ls (st) h = gI (ldI ls 1) 47 1 ls st h := x_iload_n hc_47 dX7_isStation_0 rfl rfl
theorem x_47_1 {ls st : List Value} {h : Hp} {x : Int32} : ex 47 1 ls (.int x :: st) h = if x < 0 then ex 47 16 ls st h else ex 47 4 ls st h := x_if_lt hc_47 dX7_isStation_1 rfl (by decide)
theorem x_47_4 {ls st : List Value} {h : Hp}  : ex 47 4 ls (st) h = gI (ldI ls 1) 47 5 ls st h := x_iload_n hc_47 dX7_isStation_4 rfl rfl
theorem x_47_5 {ls st : List Value} {h : Hp}  : ex 47 5 ls (st) h = gA (ldA ls 0) 47 6 ls st h := x_aload_n hc_47 dX7_isStation_5 rfl rfl
theorem x_47_6 {ls st : List Value} {h : Hp} {k : Nat} : ex 47 6 ls (.ref k :: st) h = if kd k = 7 then ex 47 9 ls (vl h k 11 :: st) h else none := x_getf hc_47 dX7_isStation_6 rfl fr_7_76
theorem x_47_9 {ls st : List Value} {h : Hp} {x z : Int32} : ex 47 9 ls (.int z :: .int x :: st) h = if x < z then ex 47 12 ls st h else ex 47 16 ls st h := x_icmp_ge hc_47 dX7_isStation_9 rfl (by decide)
theorem x_47_12 {ls st : List Value} {h : Hp}  : ex 47 12 ls (st) h = ex 47 13 ls (.int (1) :: st) h := x_iconst hc_47 dX7_isStation_12 rfl (by decide)
theorem x_47_13 {ls st : List Value} {h : Hp}  : ex 47 13 ls (st) h = ex 47 17 ls st h := x_goto hc_47 dX7_isStation_13 (by decide)
theorem x_47_16 {ls st : List Value} {h : Hp}  : ex 47 16 ls (st) h = ex 47 17 ls (.int (0) :: st) h := x_iconst hc_47 dX7_isStation_16 rfl (by decide)
theorem x_47_17 {ls : List Value} {h : Hp} {v : Int32} : ex 47 17 ls [.int v] h = if v = 0 ∨ v = 1 then some (some (.int v), h) else none := x_zret hc_47 dX7_isStation_17 rfl
theorem x_48_0 {ls st : List Value} {h : Hp}  : ex 48 0 ls (st) h = gA (ldA ls 0) 48 1 ls st h := x_aload_n hc_48 dX7_gang_0 rfl rfl
theorem x_48_1 {ls st : List Value} {h : Hp}  : ex 48 1 ls (st) h = gI (ldI ls 1) 48 2 ls st h := x_iload_n hc_48 dX7_gang_1 rfl rfl
theorem x_48_2 {ls st : List Value} {h : Hp} {k : Nat} {a0 : Int32} : ex 48 2 ls (.int a0 :: .ref k :: st) h = if kd k = 7 ∧ st.length ≤ 4 then gC (ex 47 0 [.ref k, .int a0] [] h) 48 5 ls st else none := x_callV (as := [.int a0]) hc_48 dX7_gang_2 rfl mr_7_108 rfl rfl rfl (by decide) (by decide)
theorem x_48_5 {ls st : List Value} {h : Hp} {x : Int32} : ex 48 5 ls (.int x :: st) h = if x = 0 then ex 48 8 ls st h else ex 48 15 ls st h := x_if_ne hc_48 dX7_gang_5 rfl (by decide)
theorem x_48_8 {ls st : List Value} {h : Hp}  : ex 48 8 ls (st) h = gA (ldA ls 0) 48 9 ls st h := x_aload_n hc_48 dX7_gang_8 rfl rfl
theorem x_48_9 {ls st : List Value} {h : Hp}  : ex 48 9 ls (st) h = ex 48 11 ls (.int (-3) :: st) h := x_bipush hc_48 dX7_gang_9 rfl (by decide)
theorem x_48_11 {ls st : List Value} {h : Hp} {k : Nat} {a0 : Int32} : ex 48 11 ls (.int a0 :: .ref k :: st) h = if kd k = 7 ∧ st.length ≤ 4 then gC (ex 45 0 [.ref k, .int a0] [] h) 48 14 ls st else none := x_callV (as := [.int a0]) hc_48 dX7_gang_11 rfl mr_7_104 rfl rfl rfl (by decide) (by decide)
theorem x_48_14 {ls : List Value} {h : Hp} {v : Int32} : ex 48 14 ls [.int v] h = some (some (.int v), h) := x_iret hc_48 dX7_gang_14 rfl
theorem x_48_15 {ls st : List Value} {h : Hp}  : ex 48 15 ls (st) h = gI (ldI ls 2) 48 16 ls st h := x_iload_n hc_48 dX7_gang_15 rfl rfl
theorem x_48_16 {ls st : List Value} {h : Hp}  : ex 48 16 ls (st) h = ex 48 17 ls (.int (0) :: st) h := x_iconst hc_48 dX7_gang_16 rfl (by decide)
theorem x_48_17 {ls st : List Value} {h : Hp}  : ex 48 17 ls (st) h = ex 48 19 ls (.int (100) :: st) h := x_bipush hc_48 dX7_gang_17 rfl (by decide)
theorem x_48_19 {ls st : List Value} {h : Hp} {a0 : Int32} {a1 : Int32} {a2 : Int32} : ex 48 19 ls (.int a2 :: .int a1 :: .int a0 :: st) h = if st.length ≤ 4 then gC (ex 44 0 [.int a0, .int a1, .int a2] [] h) 48 22 ls st else none := x_callS (as := [.int a0, .int a1, .int a2]) hc_48 dX7_gang_19 rfl mr_7_100 rfl rfl rfl (by decide)
theorem x_48_22 {ls st : List Value} {h : Hp} {x : Int32} : ex 48 22 ls (.int x :: st) h = if x = 0 then ex 48 25 ls st h else ex 48 32 ls st h := x_if_ne hc_48 dX7_gang_22 rfl (by decide)
theorem x_48_25 {ls st : List Value} {h : Hp}  : ex 48 25 ls (st) h = gA (ldA ls 0) 48 26 ls st h := x_aload_n hc_48 dX7_gang_25 rfl rfl
theorem x_48_26 {ls st : List Value} {h : Hp}  : ex 48 26 ls (st) h = ex 48 28 ls (.int (-7) :: st) h := x_bipush hc_48 dX7_gang_26 rfl (by decide)
theorem x_48_28 {ls st : List Value} {h : Hp} {k : Nat} {a0 : Int32} : ex 48 28 ls (.int a0 :: .ref k :: st) h = if kd k = 7 ∧ st.length ≤ 4 then gC (ex 45 0 [.ref k, .int a0] [] h) 48 31 ls st else none := x_callV (as := [.int a0]) hc_48 dX7_gang_28 rfl mr_7_104 rfl rfl rfl (by decide) (by decide)
theorem x_48_31 {ls : List Value} {h : Hp} {v : Int32} : ex 48 31 ls [.int v] h = some (some (.int v), h) := x_iret hc_48 dX7_gang_31 rfl
theorem x_48_32 {ls st : List Value} {h : Hp}  : ex 48 32 ls (st) h = gA (ldA ls 0) 48 33 ls st h := x_aload_n hc_48 dX7_gang_32 rfl rfl
theorem x_48_33 {ls st : List Value} {h : Hp} {k : Nat} : ex 48 33 ls (.ref k :: st) h = if kd k = 7 then ex 48 36 ls (vl h k 0 :: st) h else none := x_getf hc_48 dX7_gang_33 rfl fr_7_11
theorem x_48_36 {ls st : List Value} {h : Hp}  : ex 48 36 ls (st) h = gI (ldI ls 1) 48 37 ls st h := x_iload_n hc_48 dX7_gang_36 rfl rfl
theorem x_48_37 {ls st : List Value} {h : Hp} {k : Nat} {x : Int32} : ex 48 37 ls (.int x :: .ref k :: st) h = if (11 ≤ kd k ∧ kd k ≤ 14) ∧ x.toNatClampNeg < ln k ∧ 0 ≤ x then gA (rf k x.toNatClampNeg) 48 38 ls st h else none := x_aald hc_48 dX7_gang_37 rfl
theorem x_48_38 {ls st : List Value} {h : Hp} {k : Nat} : ex 48 38 ls (.ref k :: st) h = if kd k = 4 then ex 48 41 ls (vl h k 4 :: st) h else none := x_getf hc_48 dX7_gang_38 rfl fr_7_116
theorem x_48_41 {ls st : List Value} {h : Hp} {x : Int32} : ex 48 41 ls (.int x :: st) h = ex 48 42 (ls.set 3 (.int x)) st h := x_istore_n hc_48 dX7_gang_41 rfl rfl (by decide)
theorem x_48_42 {ls st : List Value} {h : Hp}  : ex 48 42 ls (st) h = gA (ldA ls 0) 48 43 ls st h := x_aload_n hc_48 dX7_gang_42 rfl rfl
theorem x_48_43 {ls st : List Value} {h : Hp} {k : Nat} : ex 48 43 ls (.ref k :: st) h = if kd k = 7 then ex 48 46 ls (vl h k 0 :: st) h else none := x_getf hc_48 dX7_gang_43 rfl fr_7_11
theorem x_48_46 {ls st : List Value} {h : Hp}  : ex 48 46 ls (st) h = gI (ldI ls 1) 48 47 ls st h := x_iload_n hc_48 dX7_gang_46 rfl rfl
theorem x_48_47 {ls st : List Value} {h : Hp} {k : Nat} {x : Int32} : ex 48 47 ls (.int x :: .ref k :: st) h = if (11 ≤ kd k ∧ kd k ≤ 14) ∧ x.toNatClampNeg < ln k ∧ 0 ≤ x then gA (rf k x.toNatClampNeg) 48 48 ls st h else none := x_aald hc_48 dX7_gang_47 rfl
theorem x_48_48 {ls st : List Value} {h : Hp}  : ex 48 48 ls (st) h = gI (ldI ls 2) 48 49 ls st h := x_iload_n hc_48 dX7_gang_48 rfl rfl
theorem x_48_49 {ls st : List Value} {h : Hp} {k : Nat} {x : Int32} : ex 48 49 ls (.int x :: .ref k :: st) h = if kd k = 4 then ex 48 52 ls st (hu h k 4 x) else none := x_putf hc_48 dX7_gang_49 rfl fr_7_116 (by decide)
theorem x_48_52 {ls st : List Value} {h : Hp}  : ex 48 52 ls (st) h = gI (ldI ls 3) 48 53 ls st h := x_iload_n hc_48 dX7_gang_52 rfl rfl
theorem x_48_53 {ls : List Value} {h : Hp} {v : Int32} : ex 48 53 ls [.int v] h = some (some (.int v), h) := x_iret hc_48 dX7_gang_53 rfl
theorem x_49_0 {ls st : List Value} {h : Hp}  : ex 49 0 ls (st) h = gA (ldA ls 0) 49 1 ls st h := x_aload_n hc_49 dX7_price_0 rfl rfl
theorem x_49_1 {ls st : List Value} {h : Hp}  : ex 49 1 ls (st) h = gI (ldI ls 1) 49 2 ls st h := x_iload_n hc_49 dX7_price_1 rfl rfl
theorem x_49_2 {ls st : List Value} {h : Hp} {k : Nat} {a0 : Int32} : ex 49 2 ls (.int a0 :: .ref k :: st) h = if kd k = 7 ∧ st.length ≤ 4 then gC (ex 47 0 [.ref k, .int a0] [] h) 49 5 ls st else none := x_callV (as := [.int a0]) hc_49 dX7_price_2 rfl mr_7_108 rfl rfl rfl (by decide) (by decide)
theorem x_49_5 {ls st : List Value} {h : Hp} {x : Int32} : ex 49 5 ls (.int x :: st) h = if x = 0 then ex 49 8 ls st h else ex 49 15 ls st h := x_if_ne hc_49 dX7_price_5 rfl (by decide)
theorem x_49_8 {ls st : List Value} {h : Hp}  : ex 49 8 ls (st) h = gA (ldA ls 0) 49 9 ls st h := x_aload_n hc_49 dX7_price_8 rfl rfl
theorem x_49_9 {ls st : List Value} {h : Hp}  : ex 49 9 ls (st) h = ex 49 11 ls (.int (-3) :: st) h := x_bipush hc_49 dX7_price_9 rfl (by decide)
theorem x_49_11 {ls st : List Value} {h : Hp} {k : Nat} {a0 : Int32} : ex 49 11 ls (.int a0 :: .ref k :: st) h = if kd k = 7 ∧ st.length ≤ 4 then gC (ex 45 0 [.ref k, .int a0] [] h) 49 14 ls st else none := x_callV (as := [.int a0]) hc_49 dX7_price_11 rfl mr_7_104 rfl rfl rfl (by decide) (by decide)
theorem x_49_14 {ls : List Value} {h : Hp} {v : Int32} : ex 49 14 ls [.int v] h = some (some (.int v), h) := x_iret hc_49 dX7_price_14 rfl
theorem x_49_15 {ls st : List Value} {h : Hp}  : ex 49 15 ls (st) h = gI (ldI ls 2) 49 16 ls st h := x_iload_n hc_49 dX7_price_15 rfl rfl
theorem x_49_16 {ls st : List Value} {h : Hp}  : ex 49 16 ls (st) h = ex 49 17 ls (.int (0) :: st) h := x_iconst hc_49 dX7_price_16 rfl (by decide)
theorem x_49_17 {ls st : List Value} {h : Hp}  : ex 49 17 ls (st) h = ex 49 19 ls (.int (99) :: st) h := x_bipush hc_49 dX7_price_17 rfl (by decide)
theorem x_49_19 {ls st : List Value} {h : Hp} {a0 : Int32} {a1 : Int32} {a2 : Int32} : ex 49 19 ls (.int a2 :: .int a1 :: .int a0 :: st) h = if st.length ≤ 4 then gC (ex 44 0 [.int a0, .int a1, .int a2] [] h) 49 22 ls st else none := x_callS (as := [.int a0, .int a1, .int a2]) hc_49 dX7_price_19 rfl mr_7_100 rfl rfl rfl (by decide)
theorem x_49_22 {ls st : List Value} {h : Hp} {x : Int32} : ex 49 22 ls (.int x :: st) h = if x = 0 then ex 49 25 ls st h else ex 49 32 ls st h := x_if_ne hc_49 dX7_price_22 rfl (by decide)
theorem x_49_25 {ls st : List Value} {h : Hp}  : ex 49 25 ls (st) h = gA (ldA ls 0) 49 26 ls st h := x_aload_n hc_49 dX7_price_25 rfl rfl
theorem x_49_26 {ls st : List Value} {h : Hp}  : ex 49 26 ls (st) h = ex 49 28 ls (.int (-7) :: st) h := x_bipush hc_49 dX7_price_26 rfl (by decide)
theorem x_49_28 {ls st : List Value} {h : Hp} {k : Nat} {a0 : Int32} : ex 49 28 ls (.int a0 :: .ref k :: st) h = if kd k = 7 ∧ st.length ≤ 4 then gC (ex 45 0 [.ref k, .int a0] [] h) 49 31 ls st else none := x_callV (as := [.int a0]) hc_49 dX7_price_28 rfl mr_7_104 rfl rfl rfl (by decide) (by decide)
theorem x_49_31 {ls : List Value} {h : Hp} {v : Int32} : ex 49 31 ls [.int v] h = some (some (.int v), h) := x_iret hc_49 dX7_price_31 rfl
theorem x_49_32 {ls st : List Value} {h : Hp}  : ex 49 32 ls (st) h = gA (ldA ls 0) 49 33 ls st h := x_aload_n hc_49 dX7_price_32 rfl rfl
theorem x_49_33 {ls st : List Value} {h : Hp} {k : Nat} : ex 49 33 ls (.ref k :: st) h = if kd k = 7 then ex 49 36 ls (vl h k 0 :: st) h else none := x_getf hc_49 dX7_price_33 rfl fr_7_11
theorem x_49_36 {ls st : List Value} {h : Hp}  : ex 49 36 ls (st) h = gI (ldI ls 1) 49 37 ls st h := x_iload_n hc_49 dX7_price_36 rfl rfl
theorem x_49_37 {ls st : List Value} {h : Hp} {k : Nat} {x : Int32} : ex 49 37 ls (.int x :: .ref k :: st) h = if (11 ≤ kd k ∧ kd k ≤ 14) ∧ x.toNatClampNeg < ln k ∧ 0 ≤ x then gA (rf k x.toNatClampNeg) 49 38 ls st h else none := x_aald hc_49 dX7_price_37 rfl
theorem x_49_38 {ls st : List Value} {h : Hp} {k : Nat} : ex 49 38 ls (.ref k :: st) h = if kd k = 4 then ex 49 41 ls (vl h k 5 :: st) h else none := x_getf hc_49 dX7_price_38 rfl fr_7_119
theorem x_49_41 {ls st : List Value} {h : Hp} {x : Int32} : ex 49 41 ls (.int x :: st) h = ex 49 42 (ls.set 3 (.int x)) st h := x_istore_n hc_49 dX7_price_41 rfl rfl (by decide)
theorem x_49_42 {ls st : List Value} {h : Hp}  : ex 49 42 ls (st) h = gA (ldA ls 0) 49 43 ls st h := x_aload_n hc_49 dX7_price_42 rfl rfl
theorem x_49_43 {ls st : List Value} {h : Hp} {k : Nat} : ex 49 43 ls (.ref k :: st) h = if kd k = 7 then ex 49 46 ls (vl h k 0 :: st) h else none := x_getf hc_49 dX7_price_43 rfl fr_7_11
theorem x_49_46 {ls st : List Value} {h : Hp}  : ex 49 46 ls (st) h = gI (ldI ls 1) 49 47 ls st h := x_iload_n hc_49 dX7_price_46 rfl rfl
theorem x_49_47 {ls st : List Value} {h : Hp} {k : Nat} {x : Int32} : ex 49 47 ls (.int x :: .ref k :: st) h = if (11 ≤ kd k ∧ kd k ≤ 14) ∧ x.toNatClampNeg < ln k ∧ 0 ≤ x then gA (rf k x.toNatClampNeg) 49 48 ls st h else none := x_aald hc_49 dX7_price_47 rfl
theorem x_49_48 {ls st : List Value} {h : Hp}  : ex 49 48 ls (st) h = gI (ldI ls 2) 49 49 ls st h := x_iload_n hc_49 dX7_price_48 rfl rfl
theorem x_49_49 {ls st : List Value} {h : Hp} {k : Nat} {x : Int32} : ex 49 49 ls (.int x :: .ref k :: st) h = if kd k = 4 then ex 49 52 ls st (hu h k 5 x) else none := x_putf hc_49 dX7_price_49 rfl fr_7_119 (by decide)
theorem x_49_52 {ls st : List Value} {h : Hp}  : ex 49 52 ls (st) h = gI (ldI ls 3) 49 53 ls st h := x_iload_n hc_49 dX7_price_52 rfl rfl
theorem x_49_53 {ls : List Value} {h : Hp} {v : Int32} : ex 49 53 ls [.int v] h = some (some (.int v), h) := x_iret hc_49 dX7_price_53 rfl
theorem x_50_0 {ls st : List Value} {h : Hp}  : ex 50 0 ls (st) h = gA (ldA ls 0) 50 1 ls st h := x_aload_n hc_50 dX7_weather_0 rfl rfl
theorem x_50_1 {ls st : List Value} {h : Hp}  : ex 50 1 ls (st) h = gI (ldI ls 1) 50 2 ls st h := x_iload_n hc_50 dX7_weather_1 rfl rfl
theorem x_50_2 {ls st : List Value} {h : Hp} {k : Nat} {a0 : Int32} : ex 50 2 ls (.int a0 :: .ref k :: st) h = if kd k = 7 ∧ st.length ≤ 4 then gC (ex 47 0 [.ref k, .int a0] [] h) 50 5 ls st else none := x_callV (as := [.int a0]) hc_50 dX7_weather_2 rfl mr_7_108 rfl rfl rfl (by decide) (by decide)
theorem x_50_5 {ls st : List Value} {h : Hp} {x : Int32} : ex 50 5 ls (.int x :: st) h = if x = 0 then ex 50 18 ls st h else ex 50 8 ls st h := x_if_eq hc_50 dX7_weather_5 rfl (by decide)
theorem x_50_8 {ls st : List Value} {h : Hp}  : ex 50 8 ls (st) h = gI (ldI ls 2) 50 9 ls st h := x_iload_n hc_50 dX7_weather_8 rfl rfl
theorem x_50_9 {ls st : List Value} {h : Hp}  : ex 50 9 ls (st) h = ex 50 10 ls (.int (0) :: st) h := x_iconst hc_50 dX7_weather_9 rfl (by decide)
theorem x_50_10 {ls st : List Value} {h : Hp}  : ex 50 10 ls (st) h = ex 50 12 ls (.int (47) :: st) h := x_bipush hc_50 dX7_weather_10 rfl (by decide)
theorem x_50_12 {ls st : List Value} {h : Hp} {a0 : Int32} {a1 : Int32} {a2 : Int32} : ex 50 12 ls (.int a2 :: .int a1 :: .int a0 :: st) h = if st.length ≤ 4 then gC (ex 44 0 [.int a0, .int a1, .int a2] [] h) 50 15 ls st else none := x_callS (as := [.int a0, .int a1, .int a2]) hc_50 dX7_weather_12 rfl mr_7_100 rfl rfl rfl (by decide)
theorem x_50_15 {ls st : List Value} {h : Hp} {x : Int32} : ex 50 15 ls (.int x :: st) h = if x = 0 then ex 50 18 ls st h else ex 50 25 ls st h := x_if_ne hc_50 dX7_weather_15 rfl (by decide)
theorem x_50_18 {ls st : List Value} {h : Hp}  : ex 50 18 ls (st) h = gA (ldA ls 0) 50 19 ls st h := x_aload_n hc_50 dX7_weather_18 rfl rfl
theorem x_50_19 {ls st : List Value} {h : Hp}  : ex 50 19 ls (st) h = ex 50 21 ls (.int (-3) :: st) h := x_bipush hc_50 dX7_weather_19 rfl (by decide)
theorem x_50_21 {ls st : List Value} {h : Hp} {k : Nat} {a0 : Int32} : ex 50 21 ls (.int a0 :: .ref k :: st) h = if kd k = 7 ∧ st.length ≤ 4 then gC (ex 51 0 [.ref k, .int a0] [] h) 50 24 ls st else none := x_callV (as := [.int a0]) hc_50 dX7_weather_21 rfl mr_7_122 rfl rfl rfl (by decide) (by decide)
theorem x_50_24 {ls : List Value} {h : Hp} {v : Int32} : ex 50 24 ls [.int v] h = some (some (.int v), h) := x_iret hc_50 dX7_weather_24 rfl
theorem x_50_25 {ls st : List Value} {h : Hp}  : ex 50 25 ls (st) h = gI (ldI ls 3) 50 26 ls st h := x_iload_n hc_50 dX7_weather_25 rfl rfl
theorem x_50_26 {ls st : List Value} {h : Hp}  : ex 50 26 ls (st) h = ex 50 29 ls (.int (-9999) :: st) h := x_sipush hc_50 dX7_weather_26 rfl (by decide)
theorem x_50_29 {ls st : List Value} {h : Hp} {x z : Int32} : ex 50 29 ls (.int z :: .int x :: st) h = if x = z then ex 50 46 ls st h else ex 50 32 ls st h := x_icmp_eq hc_50 dX7_weather_29 rfl (by decide)
theorem x_50_32 {ls st : List Value} {h : Hp}  : ex 50 32 ls (st) h = gI (ldI ls 3) 50 33 ls st h := x_iload_n hc_50 dX7_weather_32 rfl rfl
theorem x_50_33 {ls st : List Value} {h : Hp} {a0 : Int32} : ex 50 33 ls (.int a0 :: st) h = if st.length ≤ 4 then gC (ex 52 0 [.int a0] [] h) 50 36 ls st else none := x_callS (as := [.int a0]) hc_50 dX7_weather_33 rfl mr_7_125 rfl rfl rfl (by decide)
theorem x_50_36 {ls st : List Value} {h : Hp} {x : Int32} : ex 50 36 ls (.int x :: st) h = if x = 0 then ex 50 39 ls st h else ex 50 46 ls st h := x_if_ne hc_50 dX7_weather_36 rfl (by decide)
theorem x_50_39 {ls st : List Value} {h : Hp}  : ex 50 39 ls (st) h = gA (ldA ls 0) 50 40 ls st h := x_aload_n hc_50 dX7_weather_39 rfl rfl
theorem x_50_40 {ls st : List Value} {h : Hp}  : ex 50 40 ls (st) h = ex 50 42 ls (.int (-7) :: st) h := x_bipush hc_50 dX7_weather_40 rfl (by decide)
theorem x_50_42 {ls st : List Value} {h : Hp} {k : Nat} {a0 : Int32} : ex 50 42 ls (.int a0 :: .ref k :: st) h = if kd k = 7 ∧ st.length ≤ 4 then gC (ex 51 0 [.ref k, .int a0] [] h) 50 45 ls st else none := x_callV (as := [.int a0]) hc_50 dX7_weather_42 rfl mr_7_122 rfl rfl rfl (by decide) (by decide)
theorem x_50_45 {ls : List Value} {h : Hp} {v : Int32} : ex 50 45 ls [.int v] h = some (some (.int v), h) := x_iret hc_50 dX7_weather_45 rfl
theorem x_50_46 {ls st : List Value} {h : Hp}  : ex 50 46 ls (st) h = gA (ldA ls 0) 50 47 ls st h := x_aload_n hc_50 dX7_weather_46 rfl rfl
theorem x_50_47 {ls st : List Value} {h : Hp} {k : Nat} : ex 50 47 ls (.ref k :: st) h = if kd k = 7 then ex 50 50 ls (vl h k 0 :: st) h else none := x_getf hc_50 dX7_weather_47 rfl fr_7_11
theorem x_50_50 {ls st : List Value} {h : Hp}  : ex 50 50 ls (st) h = gI (ldI ls 1) 50 51 ls st h := x_iload_n hc_50 dX7_weather_50 rfl rfl
theorem x_50_51 {ls st : List Value} {h : Hp} {k : Nat} {x : Int32} : ex 50 51 ls (.int x :: .ref k :: st) h = if (11 ≤ kd k ∧ kd k ≤ 14) ∧ x.toNatClampNeg < ln k ∧ 0 ≤ x then gA (rf k x.toNatClampNeg) 50 52 ls st h else none := x_aald hc_50 dX7_weather_51 rfl
theorem x_50_52 {ls st : List Value} {h : Hp} {x : Nat} : ex 50 52 ls (.ref x :: st) h = ex 50 54 (ls.set 4 (.ref x)) st h := x_astore hc_50 dX7_weather_52 rfl (by decide)
theorem x_50_54 {ls st : List Value} {h : Hp}  : ex 50 54 ls (st) h = gA (ldA ls 4) 50 56 ls st h := x_aload hc_50 dX7_weather_54 rfl
theorem x_50_56 {ls st : List Value} {h : Hp} {k : Nat} : ex 50 56 ls (.ref k :: st) h = if kd k = 4 then ex 50 59 ls (vl h k 0 :: st) h else none := x_getf hc_50 dX7_weather_56 rfl fr_7_128
theorem x_50_59 {ls st : List Value} {h : Hp}  : ex 50 59 ls (st) h = gI (ldI ls 2) 50 60 ls st h := x_iload_n hc_50 dX7_weather_59 rfl rfl
theorem x_50_60 {ls st : List Value} {h : Hp} {k : Nat} {x : Int32} : ex 50 60 ls (.int x :: .ref k :: st) h = if kd k = 9 ∧ x.toNatClampNeg < ln k ∧ 0 ≤ x then ex 50 61 ls (.int (h k x.toNatClampNeg) :: st) h else none := x_iald hc_50 dX7_weather_60 rfl
theorem x_50_61 {ls st : List Value} {h : Hp} {x : Int32} : ex 50 61 ls (.int x :: st) h = ex 50 63 (ls.set 5 (.int x)) st h := x_istore hc_50 dX7_weather_61 rfl (by decide)
theorem x_50_63 {ls st : List Value} {h : Hp}  : ex 50 63 ls (st) h = gA (ldA ls 4) 50 65 ls st h := x_aload hc_50 dX7_weather_63 rfl
theorem x_50_65 {ls st : List Value} {h : Hp} {k : Nat} : ex 50 65 ls (.ref k :: st) h = if kd k = 4 then ex 50 68 ls (vl h k 0 :: st) h else none := x_getf hc_50 dX7_weather_65 rfl fr_7_128
theorem x_50_68 {ls st : List Value} {h : Hp}  : ex 50 68 ls (st) h = gI (ldI ls 2) 50 69 ls st h := x_iload_n hc_50 dX7_weather_68 rfl rfl
theorem x_50_69 {ls st : List Value} {h : Hp}  : ex 50 69 ls (st) h = gI (ldI ls 3) 50 70 ls st h := x_iload_n hc_50 dX7_weather_69 rfl rfl
theorem x_50_70 {ls st : List Value} {h : Hp} {k : Nat} {x u : Int32} : ex 50 70 ls (.int u :: .int x :: .ref k :: st) h = if kd k = 9 ∧ x.toNatClampNeg < ln k ∧ 0 ≤ x then ex 50 71 ls st (hu h k x.toNatClampNeg u) else none := x_iast hc_50 dX7_weather_70 rfl
theorem x_50_71 {ls st : List Value} {h : Hp}  : ex 50 71 ls (st) h = gA (ldA ls 4) 50 73 ls st h := x_aload hc_50 dX7_weather_71 rfl
theorem x_50_73 {ls st : List Value} {h : Hp} {k : Nat}  : ex 50 73 ls (.ref k :: st) h = if kd k = 4 ∧ st.length ≤ 4 then gC (ex 20 0 [.ref k, .null, .null] [] h) 50 76 ls st else none := x_callV (as := []) hc_50 dX7_weather_73 rfl mr_7_131 rfl rfl rfl (by decide) (by decide)
theorem x_50_76 {ls st : List Value} {h : Hp}  : ex 50 76 ls (st) h = gI (ldI ls 5) 50 78 ls st h := x_iload hc_50 dX7_weather_76 rfl
theorem x_50_78 {ls : List Value} {h : Hp} {v : Int32} : ex 50 78 ls [.int v] h = some (some (.int v), h) := x_iret hc_50 dX7_weather_78 rfl
theorem x_51_0 {ls st : List Value} {h : Hp}  : ex 51 0 ls (st) h = gA (ldA ls 0) 51 1 ls st h := x_aload_n hc_51 dX7_refuseByZero_0 rfl rfl
theorem x_51_1 {ls st : List Value} {h : Hp}  : ex 51 1 ls (st) h = gI (ldI ls 1) 51 2 ls st h := x_iload_n hc_51 dX7_refuseByZero_1 rfl rfl
theorem x_51_2 {ls st : List Value} {h : Hp} {k : Nat} {a0 : Int32} : ex 51 2 ls (.int a0 :: .ref k :: st) h = if kd k = 7 ∧ st.length ≤ 4 then gC (ex 45 0 [.ref k, .int a0] [] h) 51 5 ls st else none := x_callV (as := [.int a0]) hc_51 dX7_refuseByZero_2 rfl mr_7_104 rfl rfl rfl (by decide) (by decide)
theorem x_51_5i {ls st : List Value} {h : Hp} {u : Int32} : ex 51 5 ls (.int u :: st) h = ex 51 6 ls (st) h := x_pop_i hc_51 dX7_refuseByZero_5 rfl
theorem x_51_5a {ls st : List Value} {h : Hp} {u : Nat} : ex 51 5 ls (.ref u :: st) h = ex 51 6 ls (st) h := x_pop_a hc_51 dX7_refuseByZero_5 rfl
theorem x_51_6 {ls st : List Value} {h : Hp}  : ex 51 6 ls (st) h = ex 51 7 ls (.int (0) :: st) h := x_iconst hc_51 dX7_refuseByZero_6 rfl (by decide)
theorem x_51_7 {ls : List Value} {h : Hp} {v : Int32} : ex 51 7 ls [.int v] h = some (some (.int v), h) := x_iret hc_51 dX7_refuseByZero_7 rfl
theorem x_52_0 {ls st : List Value} {h : Hp}  : ex 52 0 ls (st) h = gI (ldI ls 0) 52 1 ls st h := x_iload_n hc_52 dX7_isHeat_0 rfl rfl
theorem x_52_1 {ls st : List Value} {h : Hp}  : ex 52 1 ls (st) h = ex 52 4 ls (.int (-400) :: st) h := x_sipush hc_52 dX7_isHeat_1 rfl (by decide)
theorem x_52_4 {ls st : List Value} {h : Hp}  : ex 52 4 ls (st) h = ex 52 7 ls (.int (500) :: st) h := x_sipush hc_52 dX7_isHeat_4 rfl (by decide)
theorem x_52_7 {ls st : List Value} {h : Hp} {a0 : Int32} {a1 : Int32} {a2 : Int32} : ex 52 7 ls (.int a2 :: .int a1 :: .int a0 :: st) h = if st.length ≤ 4 then gC (ex 44 0 [.int a0, .int a1, .int a2] [] h) 52 10 ls st else none := x_callS (as := [.int a0, .int a1, .int a2]) hc_52 dX7_isHeat_7 rfl mr_7_100 rfl rfl rfl (by decide)
theorem x_52_10 {ls : List Value} {h : Hp} {v : Int32} : ex 52 10 ls [.int v] h = if v = 0 ∨ v = 1 then some (some (.int v), h) else none := x_zret hc_52 dX7_isHeat_10 rfl
theorem x_53_0 {ls st : List Value} {h : Hp}  : ex 53 0 ls (st) h = gA (ldA ls 0) 53 1 ls st h := x_aload_n hc_53 dX7_read_0 rfl rfl
theorem x_53_1 {ls st : List Value} {h : Hp}  : ex 53 1 ls (st) h = gI (ldI ls 1) 53 2 ls st h := x_iload_n hc_53 dX7_read_1 rfl rfl
theorem x_53_2 {ls st : List Value} {h : Hp} {k : Nat} {a0 : Int32} : ex 53 2 ls (.int a0 :: .ref k :: st) h = if kd k = 7 ∧ st.length ≤ 4 then gC (ex 47 0 [.ref k, .int a0] [] h) 53 5 ls st else none := x_callV (as := [.int a0]) hc_53 dX7_read_2 rfl mr_7_108 rfl rfl rfl (by decide) (by decide)
theorem x_53_5 {ls st : List Value} {h : Hp} {x : Int32} : ex 53 5 ls (.int x :: st) h = if x = 0 then ex 53 8 ls st h else ex 53 15 ls st h := x_if_ne hc_53 dX7_read_5 rfl (by decide)
theorem x_53_8 {ls st : List Value} {h : Hp}  : ex 53 8 ls (st) h = gA (ldA ls 0) 53 9 ls st h := x_aload_n hc_53 dX7_read_8 rfl rfl
theorem x_53_9 {ls st : List Value} {h : Hp}  : ex 53 9 ls (st) h = ex 53 11 ls (.int (-3) :: st) h := x_bipush hc_53 dX7_read_9 rfl (by decide)
theorem x_53_11 {ls st : List Value} {h : Hp} {k : Nat} {a0 : Int32} : ex 53 11 ls (.int a0 :: .ref k :: st) h = if kd k = 7 ∧ st.length ≤ 4 then gC (ex 45 0 [.ref k, .int a0] [] h) 53 14 ls st else none := x_callV (as := [.int a0]) hc_53 dX7_read_11 rfl mr_7_104 rfl rfl rfl (by decide) (by decide)
theorem x_53_14 {ls : List Value} {h : Hp} {v : Int32} : ex 53 14 ls [.int v] h = some (some (.int v), h) := x_iret hc_53 dX7_read_14 rfl
theorem x_53_15 {ls st : List Value} {h : Hp}  : ex 53 15 ls (st) h = gA (ldA ls 0) 53 16 ls st h := x_aload_n hc_53 dX7_read_15 rfl rfl
theorem x_53_16 {ls st : List Value} {h : Hp} {k : Nat} : ex 53 16 ls (.ref k :: st) h = if kd k = 7 then ex 53 19 ls (vl h k 4 :: st) h else none := x_getf hc_53 dX7_read_16 rfl fr_7_37
theorem x_53_19 {ls st : List Value} {h : Hp} {k : Nat} : ex 53 19 ls (.ref k :: st) h = if kd k = 2 then ex 53 22 ls (vl h k 1 :: st) h else none := x_getf hc_53 dX7_read_19 rfl fr_7_134
theorem x_53_22 {ls st : List Value} {h : Hp} {x : Int32} : ex 53 22 ls (.int x :: st) h = if x = 0 then ex 53 25 ls st h else ex 53 32 ls st h := x_if_ne hc_53 dX7_read_22 rfl (by decide)
theorem x_53_25 {ls st : List Value} {h : Hp}  : ex 53 25 ls (st) h = gA (ldA ls 0) 53 26 ls st h := x_aload_n hc_53 dX7_read_25 rfl rfl
theorem x_53_26 {ls st : List Value} {h : Hp}  : ex 53 26 ls (st) h = ex 53 28 ls (.int (-2) :: st) h := x_bipush hc_53 dX7_read_26 rfl (by decide)
theorem x_53_28 {ls st : List Value} {h : Hp} {k : Nat} {a0 : Int32} : ex 53 28 ls (.int a0 :: .ref k :: st) h = if kd k = 7 ∧ st.length ≤ 4 then gC (ex 45 0 [.ref k, .int a0] [] h) 53 31 ls st else none := x_callV (as := [.int a0]) hc_53 dX7_read_28 rfl mr_7_104 rfl rfl rfl (by decide) (by decide)
theorem x_53_31 {ls : List Value} {h : Hp} {v : Int32} : ex 53 31 ls [.int v] h = some (some (.int v), h) := x_iret hc_53 dX7_read_31 rfl
theorem x_53_32 {ls st : List Value} {h : Hp}  : ex 53 32 ls (st) h = gA (ldA ls 0) 53 33 ls st h := x_aload_n hc_53 dX7_read_32 rfl rfl
theorem x_53_33 {ls st : List Value} {h : Hp} {k : Nat} : ex 53 33 ls (.ref k :: st) h = if kd k = 7 then ex 53 36 ls (vl h k 0 :: st) h else none := x_getf hc_53 dX7_read_33 rfl fr_7_11
theorem x_53_36 {ls st : List Value} {h : Hp}  : ex 53 36 ls (st) h = gI (ldI ls 1) 53 37 ls st h := x_iload_n hc_53 dX7_read_36 rfl rfl
theorem x_53_37 {ls st : List Value} {h : Hp} {k : Nat} {x : Int32} : ex 53 37 ls (.int x :: .ref k :: st) h = if (11 ≤ kd k ∧ kd k ≤ 14) ∧ x.toNatClampNeg < ln k ∧ 0 ≤ x then gA (rf k x.toNatClampNeg) 53 38 ls st h else none := x_aald hc_53 dX7_read_37 rfl
theorem x_53_38 {ls st : List Value} {h : Hp} {x : Nat} : ex 53 38 ls (.ref x :: st) h = ex 53 39 (ls.set 2 (.ref x)) st h := x_astore_n hc_53 dX7_read_38 rfl rfl (by decide)
theorem x_53_39 {ls st : List Value} {h : Hp}  : ex 53 39 ls (st) h = ex 53 40 ls (.int (0) :: st) h := x_iconst hc_53 dX7_read_39 rfl (by decide)
theorem x_53_40 {ls st : List Value} {h : Hp} {x : Int32} : ex 53 40 ls (.int x :: st) h = ex 53 41 (ls.set 3 (.int x)) st h := x_istore_n hc_53 dX7_read_40 rfl rfl (by decide)
theorem x_53_41 {ls st : List Value} {h : Hp}  : ex 53 41 ls (st) h = ex 53 42 ls (.int (0) :: st) h := x_iconst hc_53 dX7_read_41 rfl (by decide)
theorem x_53_42 {ls st : List Value} {h : Hp} {x : Int32} : ex 53 42 ls (.int x :: st) h = ex 53 44 (ls.set 4 (.int x)) st h := x_istore hc_53 dX7_read_42 rfl (by decide)
theorem x_53_44 {ls st : List Value} {h : Hp}  : ex 53 44 ls (st) h = gI (ldI ls 4) 53 46 ls st h := x_iload hc_53 dX7_read_44 rfl
theorem x_53_46 {ls st : List Value} {h : Hp}  : ex 53 46 ls (st) h = ex 53 48 ls (.int (48) :: st) h := x_bipush hc_53 dX7_read_46 rfl (by decide)
theorem x_53_48 {ls st : List Value} {h : Hp} {x z : Int32} : ex 53 48 ls (.int z :: .int x :: st) h = if x < z then ex 53 51 ls st h else ex 53 108 ls st h := x_icmp_ge hc_53 dX7_read_48 rfl (by decide)
theorem x_53_51 {ls st : List Value} {h : Hp}  : ex 53 51 ls (st) h = gA (ldA ls 0) 53 52 ls st h := x_aload_n hc_53 dX7_read_51 rfl rfl
theorem x_53_52 {ls st : List Value} {h : Hp} {k : Nat} : ex 53 52 ls (.ref k :: st) h = if kd k = 7 then ex 53 55 ls (vl h k 4 :: st) h else none := x_getf hc_53 dX7_read_52 rfl fr_7_37
theorem x_53_55 {ls st : List Value} {h : Hp} {k : Nat} : ex 53 55 ls (.ref k :: st) h = if kd k = 2 then ex 53 58 ls (vl h k 0 :: st) h else none := x_getf hc_53 dX7_read_55 rfl fr_7_138
theorem x_53_58 {ls st : List Value} {h : Hp}  : ex 53 58 ls (st) h = gI (ldI ls 4) 53 60 ls st h := x_iload hc_53 dX7_read_58 rfl
theorem x_53_60 {ls st : List Value} {h : Hp} {k : Nat} {x : Int32} : ex 53 60 ls (.int x :: .ref k :: st) h = if kd k = 9 ∧ x.toNatClampNeg < ln k ∧ 0 ≤ x then ex 53 61 ls (.int (h k x.toNatClampNeg) :: st) h else none := x_iald hc_53 dX7_read_60 rfl
theorem x_53_61 {ls st : List Value} {h : Hp} {x : Int32} : ex 53 61 ls (.int x :: st) h = ex 53 63 (ls.set 5 (.int x)) st h := x_istore hc_53 dX7_read_61 rfl (by decide)
theorem x_53_63 {ls st : List Value} {h : Hp}  : ex 53 63 ls (st) h = gA (ldA ls 2) 53 64 ls st h := x_aload_n hc_53 dX7_read_63 rfl rfl
theorem x_53_64 {ls st : List Value} {h : Hp} {k : Nat} : ex 53 64 ls (.ref k :: st) h = if kd k = 4 then ex 53 67 ls (vl h k 0 :: st) h else none := x_getf hc_53 dX7_read_64 rfl fr_7_128
theorem x_53_67 {ls st : List Value} {h : Hp}  : ex 53 67 ls (st) h = gI (ldI ls 4) 53 69 ls st h := x_iload hc_53 dX7_read_67 rfl
theorem x_53_69 {ls st : List Value} {h : Hp}  : ex 53 69 ls (st) h = gI (ldI ls 5) 53 71 ls st h := x_iload hc_53 dX7_read_69 rfl
theorem x_53_71 {ls st : List Value} {h : Hp} {a0 : Int32} : ex 53 71 ls (.int a0 :: st) h = if st.length ≤ 4 then gC (ex 52 0 [.int a0] [] h) 53 74 ls st else none := x_callS (as := [.int a0]) hc_53 dX7_read_71 rfl mr_7_125 rfl rfl rfl (by decide)
theorem x_53_74 {ls st : List Value} {h : Hp} {x : Int32} : ex 53 74 ls (.int x :: st) h = if x = 0 then ex 53 82 ls st h else ex 53 77 ls st h := x_if_eq hc_53 dX7_read_74 rfl (by decide)
theorem x_53_77 {ls st : List Value} {h : Hp}  : ex 53 77 ls (st) h = gI (ldI ls 5) 53 79 ls st h := x_iload hc_53 dX7_read_77 rfl
theorem x_53_79 {ls st : List Value} {h : Hp}  : ex 53 79 ls (st) h = ex 53 85 ls st h := x_goto hc_53 dX7_read_79 (by decide)
theorem x_53_82 {ls st : List Value} {h : Hp}  : ex 53 82 ls (st) h = ex 53 85 ls (.int (-9999) :: st) h := x_sipush hc_53 dX7_read_82 rfl (by decide)
theorem x_53_85 {ls st : List Value} {h : Hp} {k : Nat} {x u : Int32} : ex 53 85 ls (.int u :: .int x :: .ref k :: st) h = if kd k = 9 ∧ x.toNatClampNeg < ln k ∧ 0 ≤ x then ex 53 86 ls st (hu h k x.toNatClampNeg u) else none := x_iast hc_53 dX7_read_85 rfl
theorem x_53_86 {ls st : List Value} {h : Hp}  : ex 53 86 ls (st) h = gI (ldI ls 3) 53 87 ls st h := x_iload_n hc_53 dX7_read_86 rfl rfl
theorem x_53_87 {ls st : List Value} {h : Hp}  : ex 53 87 ls (st) h = gI (ldI ls 5) 53 89 ls st h := x_iload hc_53 dX7_read_87 rfl
theorem x_53_89 {ls st : List Value} {h : Hp} {a0 : Int32} : ex 53 89 ls (.int a0 :: st) h = if st.length ≤ 4 then gC (ex 52 0 [.int a0] [] h) 53 92 ls st else none := x_callS (as := [.int a0]) hc_53 dX7_read_89 rfl mr_7_125 rfl rfl rfl (by decide)
theorem x_53_92 {ls st : List Value} {h : Hp} {x : Int32} : ex 53 92 ls (.int x :: st) h = if x = 0 then ex 53 99 ls st h else ex 53 95 ls st h := x_if_eq hc_53 dX7_read_92 rfl (by decide)
theorem x_53_95 {ls st : List Value} {h : Hp}  : ex 53 95 ls (st) h = ex 53 96 ls (.int (1) :: st) h := x_iconst hc_53 dX7_read_95 rfl (by decide)
theorem x_53_96 {ls st : List Value} {h : Hp}  : ex 53 96 ls (st) h = ex 53 100 ls st h := x_goto hc_53 dX7_read_96 (by decide)
theorem x_53_99 {ls st : List Value} {h : Hp}  : ex 53 99 ls (st) h = ex 53 100 ls (.int (0) :: st) h := x_iconst hc_53 dX7_read_99 rfl (by decide)
theorem x_53_100 {ls st : List Value} {h : Hp} {a b : Int32} : ex 53 100 ls (.int b :: .int a :: st) h = ex 53 101 ls (.int (a + b) :: st) h := x_iadd hc_53 dX7_read_100 rfl
theorem x_53_101 {ls st : List Value} {h : Hp} {x : Int32} : ex 53 101 ls (.int x :: st) h = ex 53 102 (ls.set 3 (.int x)) st h := x_istore_n hc_53 dX7_read_101 rfl rfl (by decide)
theorem x_53_102 {ls st : List Value} {h : Hp}  : ex 53 102 ls (st) h = gN (ldI ls 4) 53 105 ls 4 (1) st h := x_iinc hc_53 dX7_read_102 rfl (by decide) (by decide)
theorem x_53_105 {ls st : List Value} {h : Hp}  : ex 53 105 ls (st) h = ex 53 44 ls st h := x_goto hc_53 dX7_read_105 (by decide)
theorem x_53_108 {ls st : List Value} {h : Hp}  : ex 53 108 ls (st) h = gA (ldA ls 2) 53 109 ls st h := x_aload_n hc_53 dX7_read_108 rfl rfl
theorem x_53_109 {ls st : List Value} {h : Hp} {k : Nat}  : ex 53 109 ls (.ref k :: st) h = if kd k = 4 ∧ st.length ≤ 4 then gC (ex 20 0 [.ref k, .null, .null] [] h) 53 112 ls st else none := x_callV (as := []) hc_53 dX7_read_109 rfl mr_7_131 rfl rfl rfl (by decide) (by decide)
theorem x_53_112 {ls st : List Value} {h : Hp}  : ex 53 112 ls (st) h = gI (ldI ls 3) 53 113 ls st h := x_iload_n hc_53 dX7_read_112 rfl rfl
theorem x_53_113 {ls : List Value} {h : Hp} {v : Int32} : ex 53 113 ls [.int v] h = some (some (.int v), h) := x_iret hc_53 dX7_read_113 rfl
theorem x_54_0 {ls st : List Value} {h : Hp}  : ex 54 0 ls (st) h = gA (ldA ls 0) 54 1 ls st h := x_aload_n hc_54 dX7_out_0 rfl rfl
theorem x_54_1 {ls st : List Value} {h : Hp}  : ex 54 1 ls (st) h = gI (ldI ls 1) 54 2 ls st h := x_iload_n hc_54 dX7_out_1 rfl rfl
theorem x_54_2 {ls st : List Value} {h : Hp} {k : Nat} {a0 : Int32} : ex 54 2 ls (.int a0 :: .ref k :: st) h = if kd k = 7 ∧ st.length ≤ 4 then gC (ex 47 0 [.ref k, .int a0] [] h) 54 5 ls st else none := x_callV (as := [.int a0]) hc_54 dX7_out_2 rfl mr_7_108 rfl rfl rfl (by decide) (by decide)
theorem x_54_5 {ls st : List Value} {h : Hp} {x : Int32} : ex 54 5 ls (.int x :: st) h = if x = 0 then ex 54 12 ls st h else ex 54 8 ls st h := x_if_eq hc_54 dX7_out_5 rfl (by decide)
theorem x_54_8 {ls st : List Value} {h : Hp}  : ex 54 8 ls (st) h = gI (ldI ls 2) 54 9 ls st h := x_iload_n hc_54 dX7_out_8 rfl rfl
theorem x_54_9 {ls st : List Value} {h : Hp} {x : Int32} : ex 54 9 ls (.int x :: st) h = if x < 0 then ex 54 12 ls st h else ex 54 19 ls st h := x_if_ge hc_54 dX7_out_9 rfl (by decide)
theorem x_54_12 {ls st : List Value} {h : Hp}  : ex 54 12 ls (st) h = gA (ldA ls 0) 54 13 ls st h := x_aload_n hc_54 dX7_out_12 rfl rfl
theorem x_54_13 {ls st : List Value} {h : Hp}  : ex 54 13 ls (st) h = ex 54 15 ls (.int (-3) :: st) h := x_bipush hc_54 dX7_out_13 rfl (by decide)
theorem x_54_15 {ls st : List Value} {h : Hp} {k : Nat} {a0 : Int32} : ex 54 15 ls (.int a0 :: .ref k :: st) h = if kd k = 7 ∧ st.length ≤ 4 then gC (ex 51 0 [.ref k, .int a0] [] h) 54 18 ls st else none := x_callV (as := [.int a0]) hc_54 dX7_out_15 rfl mr_7_122 rfl rfl rfl (by decide) (by decide)
theorem x_54_18 {ls : List Value} {h : Hp} {v : Int32} : ex 54 18 ls [.int v] h = some (some (.int v), h) := x_iret hc_54 dX7_out_18 rfl
theorem x_54_19 {ls st : List Value} {h : Hp}  : ex 54 19 ls (st) h = gA (ldA ls 0) 54 20 ls st h := x_aload_n hc_54 dX7_out_19 rfl rfl
theorem x_54_20 {ls st : List Value} {h : Hp} {k : Nat} : ex 54 20 ls (.ref k :: st) h = if kd k = 7 then ex 54 23 ls (vl h k 0 :: st) h else none := x_getf hc_54 dX7_out_20 rfl fr_7_11
theorem x_54_23 {ls st : List Value} {h : Hp}  : ex 54 23 ls (st) h = gI (ldI ls 1) 54 24 ls st h := x_iload_n hc_54 dX7_out_23 rfl rfl
theorem x_54_24 {ls st : List Value} {h : Hp} {k : Nat} {x : Int32} : ex 54 24 ls (.int x :: .ref k :: st) h = if (11 ≤ kd k ∧ kd k ≤ 14) ∧ x.toNatClampNeg < ln k ∧ 0 ≤ x then gA (rf k x.toNatClampNeg) 54 25 ls st h else none := x_aald hc_54 dX7_out_24 rfl
theorem x_54_25 {ls st : List Value} {h : Hp}  : ex 54 25 ls (st) h = gI (ldI ls 2) 54 26 ls st h := x_iload_n hc_54 dX7_out_25 rfl rfl
theorem x_54_26 {ls st : List Value} {h : Hp} {k : Nat} {a0 : Int32} : ex 54 26 ls (.int a0 :: .ref k :: st) h = if kd k = 4 ∧ st.length ≤ 4 then gC (ex 21 0 [.ref k, .int a0] [] h) 54 29 ls st else none := x_callV (as := [.int a0]) hc_54 dX7_out_26 rfl mr_7_141 rfl rfl rfl (by decide) (by decide)
theorem x_54_29 {ls : List Value} {h : Hp} {v : Int32} : ex 54 29 ls [.int v] h = some (some (.int v), h) := x_iret hc_54 dX7_out_29 rfl
theorem x_55_0 {ls st : List Value} {h : Hp}  : ex 55 0 ls (st) h = gI (ldI ls 1) 55 1 ls st h := x_iload_n hc_55 dX7_loss_0 rfl rfl
theorem x_55_1 {ls st : List Value} {h : Hp}  : ex 55 1 ls (st) h = ex 55 2 ls (.int (0) :: st) h := x_iconst hc_55 dX7_loss_1 rfl (by decide)
theorem x_55_2 {ls st : List Value} {h : Hp}  : ex 55 2 ls (st) h = gA (ldA ls 0) 55 3 ls st h := x_aload_n hc_55 dX7_loss_2 rfl rfl
theorem x_55_3 {ls st : List Value} {h : Hp} {k : Nat} : ex 55 3 ls (.ref k :: st) h = if kd k = 7 then ex 55 6 ls (vl h k 6 :: st) h else none := x_getf hc_55 dX7_loss_3 rfl fr_7_57
theorem x_55_6 {ls st : List Value} {h : Hp} {k : Nat} : ex 55 6 ls (.ref k :: st) h = if 9 ≤ kd k ∧ kd k ≤ 10 then ex 55 7 ls (.int (Int32.ofNat (ln k)) :: st) h else none := x_alen hc_55 dX7_loss_6 rfl
theorem x_55_7 {ls st : List Value} {h : Hp}  : ex 55 7 ls (st) h = ex 55 8 ls (.int (1) :: st) h := x_iconst hc_55 dX7_loss_7 rfl (by decide)
theorem x_55_8 {ls st : List Value} {h : Hp} {a b : Int32} : ex 55 8 ls (.int b :: .int a :: st) h = ex 55 9 ls (.int (a - b) :: st) h := x_isub hc_55 dX7_loss_8 rfl
theorem x_55_9 {ls st : List Value} {h : Hp} {a0 : Int32} {a1 : Int32} {a2 : Int32} : ex 55 9 ls (.int a2 :: .int a1 :: .int a0 :: st) h = if st.length ≤ 4 then gC (ex 44 0 [.int a0, .int a1, .int a2] [] h) 55 12 ls st else none := x_callS (as := [.int a0, .int a1, .int a2]) hc_55 dX7_loss_9 rfl mr_7_100 rfl rfl rfl (by decide)
theorem x_55_12 {ls st : List Value} {h : Hp} {x : Int32} : ex 55 12 ls (.int x :: st) h = if x = 0 then ex 55 15 ls st h else ex 55 22 ls st h := x_if_ne hc_55 dX7_loss_12 rfl (by decide)
theorem x_55_15 {ls st : List Value} {h : Hp}  : ex 55 15 ls (st) h = gA (ldA ls 0) 55 16 ls st h := x_aload_n hc_55 dX7_loss_15 rfl rfl
theorem x_55_16 {ls st : List Value} {h : Hp}  : ex 55 16 ls (st) h = ex 55 18 ls (.int (-3) :: st) h := x_bipush hc_55 dX7_loss_16 rfl (by decide)
theorem x_55_18 {ls st : List Value} {h : Hp} {k : Nat} {a0 : Int32} : ex 55 18 ls (.int a0 :: .ref k :: st) h = if kd k = 7 ∧ st.length ≤ 4 then gC (ex 45 0 [.ref k, .int a0] [] h) 55 21 ls st else none := x_callV (as := [.int a0]) hc_55 dX7_loss_18 rfl mr_7_104 rfl rfl rfl (by decide) (by decide)
theorem x_55_21 {ls : List Value} {h : Hp} {v : Int32} : ex 55 21 ls [.int v] h = some (some (.int v), h) := x_iret hc_55 dX7_loss_21 rfl
theorem x_55_22 {ls st : List Value} {h : Hp}  : ex 55 22 ls (st) h = gI (ldI ls 2) 55 23 ls st h := x_iload_n hc_55 dX7_loss_22 rfl rfl
theorem x_55_23 {ls st : List Value} {h : Hp}  : ex 55 23 ls (st) h = ex 55 24 ls (.int (0) :: st) h := x_iconst hc_55 dX7_loss_23 rfl (by decide)
theorem x_55_24 {ls st : List Value} {h : Hp}  : ex 55 24 ls (st) h = ex 55 27 ls (.int (999) :: st) h := x_sipush hc_55 dX7_loss_24 rfl (by decide)
theorem x_55_27 {ls st : List Value} {h : Hp} {a0 : Int32} {a1 : Int32} {a2 : Int32} : ex 55 27 ls (.int a2 :: .int a1 :: .int a0 :: st) h = if st.length ≤ 4 then gC (ex 44 0 [.int a0, .int a1, .int a2] [] h) 55 30 ls st else none := x_callS (as := [.int a0, .int a1, .int a2]) hc_55 dX7_loss_27 rfl mr_7_100 rfl rfl rfl (by decide)
theorem x_55_30 {ls st : List Value} {h : Hp} {x : Int32} : ex 55 30 ls (.int x :: st) h = if x = 0 then ex 55 33 ls st h else ex 55 40 ls st h := x_if_ne hc_55 dX7_loss_30 rfl (by decide)
theorem x_55_33 {ls st : List Value} {h : Hp}  : ex 55 33 ls (st) h = gA (ldA ls 0) 55 34 ls st h := x_aload_n hc_55 dX7_loss_33 rfl rfl
theorem x_55_34 {ls st : List Value} {h : Hp}  : ex 55 34 ls (st) h = ex 55 36 ls (.int (-7) :: st) h := x_bipush hc_55 dX7_loss_34 rfl (by decide)
theorem x_55_36 {ls st : List Value} {h : Hp} {k : Nat} {a0 : Int32} : ex 55 36 ls (.int a0 :: .ref k :: st) h = if kd k = 7 ∧ st.length ≤ 4 then gC (ex 45 0 [.ref k, .int a0] [] h) 55 39 ls st else none := x_callV (as := [.int a0]) hc_55 dX7_loss_36 rfl mr_7_104 rfl rfl rfl (by decide) (by decide)
theorem x_55_39 {ls : List Value} {h : Hp} {v : Int32} : ex 55 39 ls [.int v] h = some (some (.int v), h) := x_iret hc_55 dX7_loss_39 rfl
theorem x_55_40 {ls st : List Value} {h : Hp}  : ex 55 40 ls (st) h = gA (ldA ls 0) 55 41 ls st h := x_aload_n hc_55 dX7_loss_40 rfl rfl
theorem x_55_41 {ls st : List Value} {h : Hp} {k : Nat} : ex 55 41 ls (.ref k :: st) h = if kd k = 7 then ex 55 44 ls (vl h k 6 :: st) h else none := x_getf hc_55 dX7_loss_41 rfl fr_7_57
theorem x_55_44 {ls st : List Value} {h : Hp}  : ex 55 44 ls (st) h = gI (ldI ls 1) 55 45 ls st h := x_iload_n hc_55 dX7_loss_44 rfl rfl
theorem x_55_45 {ls st : List Value} {h : Hp} {k : Nat} {x : Int32} : ex 55 45 ls (.int x :: .ref k :: st) h = if kd k = 9 ∧ x.toNatClampNeg < ln k ∧ 0 ≤ x then ex 55 46 ls (.int (h k x.toNatClampNeg) :: st) h else none := x_iald hc_55 dX7_loss_45 rfl
theorem x_55_46 {ls st : List Value} {h : Hp} {x : Int32} : ex 55 46 ls (.int x :: st) h = ex 55 47 (ls.set 3 (.int x)) st h := x_istore_n hc_55 dX7_loss_46 rfl rfl (by decide)
theorem x_55_47 {ls st : List Value} {h : Hp}  : ex 55 47 ls (st) h = gA (ldA ls 0) 55 48 ls st h := x_aload_n hc_55 dX7_loss_47 rfl rfl
theorem x_55_48 {ls st : List Value} {h : Hp} {k : Nat} : ex 55 48 ls (.ref k :: st) h = if kd k = 7 then ex 55 51 ls (vl h k 6 :: st) h else none := x_getf hc_55 dX7_loss_48 rfl fr_7_57
theorem x_55_51 {ls st : List Value} {h : Hp}  : ex 55 51 ls (st) h = gI (ldI ls 1) 55 52 ls st h := x_iload_n hc_55 dX7_loss_51 rfl rfl
theorem x_55_52 {ls st : List Value} {h : Hp}  : ex 55 52 ls (st) h = gI (ldI ls 2) 55 53 ls st h := x_iload_n hc_55 dX7_loss_52 rfl rfl
theorem x_55_53 {ls st : List Value} {h : Hp} {k : Nat} {x u : Int32} : ex 55 53 ls (.int u :: .int x :: .ref k :: st) h = if kd k = 9 ∧ x.toNatClampNeg < ln k ∧ 0 ≤ x then ex 55 54 ls st (hu h k x.toNatClampNeg u) else none := x_iast hc_55 dX7_loss_53 rfl
theorem x_55_54 {ls st : List Value} {h : Hp}  : ex 55 54 ls (st) h = gI (ldI ls 3) 55 55 ls st h := x_iload_n hc_55 dX7_loss_54 rfl rfl
theorem x_55_55 {ls : List Value} {h : Hp} {v : Int32} : ex 55 55 ls [.int v] h = some (some (.int v), h) := x_iret hc_55 dX7_loss_55 rfl
theorem x_56_0 {ls st : List Value} {h : Hp}  : ex 56 0 ls (st) h = gA (ldA ls 0) 56 1 ls st h := x_aload_n hc_56 dX7_car_0 rfl rfl
theorem x_56_1 {ls st : List Value} {h : Hp}  : ex 56 1 ls (st) h = gI (ldI ls 1) 56 2 ls st h := x_iload_n hc_56 dX7_car_1 rfl rfl
theorem x_56_2 {ls st : List Value} {h : Hp} {k : Nat} {a0 : Int32} : ex 56 2 ls (.int a0 :: .ref k :: st) h = if kd k = 7 ∧ st.length ≤ 4 then gC (ex 47 0 [.ref k, .int a0] [] h) 56 5 ls st else none := x_callV (as := [.int a0]) hc_56 dX7_car_2 rfl mr_7_108 rfl rfl rfl (by decide) (by decide)
theorem x_56_5 {ls st : List Value} {h : Hp} {x : Int32} : ex 56 5 ls (.int x :: st) h = if x = 0 then ex 56 8 ls st h else ex 56 15 ls st h := x_if_ne hc_56 dX7_car_5 rfl (by decide)
theorem x_56_8 {ls st : List Value} {h : Hp}  : ex 56 8 ls (st) h = gA (ldA ls 0) 56 9 ls st h := x_aload_n hc_56 dX7_car_8 rfl rfl
theorem x_56_9 {ls st : List Value} {h : Hp}  : ex 56 9 ls (st) h = ex 56 11 ls (.int (-3) :: st) h := x_bipush hc_56 dX7_car_9 rfl (by decide)
theorem x_56_11 {ls st : List Value} {h : Hp} {k : Nat} {a0 : Int32} : ex 56 11 ls (.int a0 :: .ref k :: st) h = if kd k = 7 ∧ st.length ≤ 4 then gC (ex 45 0 [.ref k, .int a0] [] h) 56 14 ls st else none := x_callV (as := [.int a0]) hc_56 dX7_car_11 rfl mr_7_104 rfl rfl rfl (by decide) (by decide)
theorem x_56_14 {ls : List Value} {h : Hp} {v : Int32} : ex 56 14 ls [.int v] h = some (some (.int v), h) := x_iret hc_56 dX7_car_14 rfl
theorem x_56_15 {ls st : List Value} {h : Hp}  : ex 56 15 ls (st) h = gI (ldI ls 2) 56 16 ls st h := x_iload_n hc_56 dX7_car_15 rfl rfl
theorem x_56_16 {ls st : List Value} {h : Hp}  : ex 56 16 ls (st) h = ex 56 17 ls (.int (1) :: st) h := x_iconst hc_56 dX7_car_16 rfl (by decide)
theorem x_56_17 {ls st : List Value} {h : Hp}  : ex 56 17 ls (st) h = ex 56 19 ls (.int (40) :: st) h := x_bipush hc_56 dX7_car_17 rfl (by decide)
theorem x_56_19 {ls st : List Value} {h : Hp} {a0 : Int32} {a1 : Int32} {a2 : Int32} : ex 56 19 ls (.int a2 :: .int a1 :: .int a0 :: st) h = if st.length ≤ 4 then gC (ex 44 0 [.int a0, .int a1, .int a2] [] h) 56 22 ls st else none := x_callS (as := [.int a0, .int a1, .int a2]) hc_56 dX7_car_19 rfl mr_7_100 rfl rfl rfl (by decide)
theorem x_56_22 {ls st : List Value} {h : Hp} {x : Int32} : ex 56 22 ls (.int x :: st) h = if x = 0 then ex 56 32 ls st h else ex 56 25 ls st h := x_if_eq hc_56 dX7_car_22 rfl (by decide)
theorem x_56_25 {ls st : List Value} {h : Hp}  : ex 56 25 ls (st) h = gI (ldI ls 3) 56 26 ls st h := x_iload_n hc_56 dX7_car_25 rfl rfl
theorem x_56_26 {ls st : List Value} {h : Hp} {a0 : Int32} : ex 56 26 ls (.int a0 :: st) h = if st.length ≤ 4 then gC (ex 52 0 [.int a0] [] h) 56 29 ls st else none := x_callS (as := [.int a0]) hc_56 dX7_car_26 rfl mr_7_125 rfl rfl rfl (by decide)
theorem x_56_29 {ls st : List Value} {h : Hp} {x : Int32} : ex 56 29 ls (.int x :: st) h = if x = 0 then ex 56 32 ls st h else ex 56 39 ls st h := x_if_ne hc_56 dX7_car_29 rfl (by decide)
theorem x_56_32 {ls st : List Value} {h : Hp}  : ex 56 32 ls (st) h = gA (ldA ls 0) 56 33 ls st h := x_aload_n hc_56 dX7_car_32 rfl rfl
theorem x_56_33 {ls st : List Value} {h : Hp}  : ex 56 33 ls (st) h = ex 56 35 ls (.int (-7) :: st) h := x_bipush hc_56 dX7_car_33 rfl (by decide)
theorem x_56_35 {ls st : List Value} {h : Hp} {k : Nat} {a0 : Int32} : ex 56 35 ls (.int a0 :: .ref k :: st) h = if kd k = 7 ∧ st.length ≤ 4 then gC (ex 45 0 [.ref k, .int a0] [] h) 56 38 ls st else none := x_callV (as := [.int a0]) hc_56 dX7_car_35 rfl mr_7_104 rfl rfl rfl (by decide) (by decide)
theorem x_56_38 {ls : List Value} {h : Hp} {v : Int32} : ex 56 38 ls [.int v] h = some (some (.int v), h) := x_iret hc_56 dX7_car_38 rfl
theorem x_56_39 {ls st : List Value} {h : Hp}  : ex 56 39 ls (st) h = gA (ldA ls 0) 56 40 ls st h := x_aload_n hc_56 dX7_car_39 rfl rfl
theorem x_56_40 {ls st : List Value} {h : Hp} {k : Nat} : ex 56 40 ls (.ref k :: st) h = if kd k = 7 then ex 56 43 ls (vl h k 12 :: st) h else none := x_getf hc_56 dX7_car_40 rfl fr_7_80
theorem x_56_43 {ls st : List Value} {h : Hp}  : ex 56 43 ls (st) h = ex 56 45 ls (.int (10) :: st) h := x_bipush hc_56 dX7_car_43 rfl (by decide)
theorem x_56_45 {ls st : List Value} {h : Hp} {x z : Int32} : ex 56 45 ls (.int z :: .int x :: st) h = if x < z then ex 56 55 ls st h else ex 56 48 ls st h := x_icmp_lt hc_56 dX7_car_45 rfl (by decide)
theorem x_56_48 {ls st : List Value} {h : Hp}  : ex 56 48 ls (st) h = gA (ldA ls 0) 56 49 ls st h := x_aload_n hc_56 dX7_car_48 rfl rfl
theorem x_56_49 {ls st : List Value} {h : Hp}  : ex 56 49 ls (st) h = ex 56 51 ls (.int (-8) :: st) h := x_bipush hc_56 dX7_car_49 rfl (by decide)
theorem x_56_51 {ls st : List Value} {h : Hp} {k : Nat} {a0 : Int32} : ex 56 51 ls (.int a0 :: .ref k :: st) h = if kd k = 7 ∧ st.length ≤ 4 then gC (ex 45 0 [.ref k, .int a0] [] h) 56 54 ls st else none := x_callV (as := [.int a0]) hc_56 dX7_car_51 rfl mr_7_104 rfl rfl rfl (by decide) (by decide)
theorem x_56_54 {ls : List Value} {h : Hp} {v : Int32} : ex 56 54 ls [.int v] h = some (some (.int v), h) := x_iret hc_56 dX7_car_54 rfl
theorem x_56_55 {ls st : List Value} {h : Hp}  : ex 56 55 ls (st) h = gA (ldA ls 0) 56 56 ls st h := x_aload_n hc_56 dX7_car_55 rfl rfl
theorem x_56_56 {ls st : List Value} {h : Hp} {k : Nat} : ex 56 56 ls (.ref k :: st) h = if kd k = 7 then ex 56 59 ls (vl h k 1 :: st) h else none := x_getf hc_56 dX7_car_56 rfl fr_7_17
theorem x_56_59 {ls st : List Value} {h : Hp}  : ex 56 59 ls (st) h = gA (ldA ls 0) 56 60 ls st h := x_aload_n hc_56 dX7_car_59 rfl rfl
theorem x_56_60 {ls st : List Value} {h : Hp} {k : Nat} : ex 56 60 ls (.ref k :: st) h = if kd k = 7 then ex 56 63 ls (vl h k 12 :: st) h else none := x_getf hc_56 dX7_car_60 rfl fr_7_80
theorem x_56_63 {ls st : List Value} {h : Hp} {k : Nat} {x : Int32} : ex 56 63 ls (.int x :: .ref k :: st) h = if (11 ≤ kd k ∧ kd k ≤ 14) ∧ x.toNatClampNeg < ln k ∧ 0 ≤ x then gA (rf k x.toNatClampNeg) 56 64 ls st h else none := x_aald hc_56 dX7_car_63 rfl
theorem x_56_64 {ls st : List Value} {h : Hp}  : ex 56 64 ls (st) h = gI (ldI ls 1) 56 65 ls st h := x_iload_n hc_56 dX7_car_64 rfl rfl
theorem x_56_65 {ls st : List Value} {h : Hp}  : ex 56 65 ls (st) h = gI (ldI ls 2) 56 66 ls st h := x_iload_n hc_56 dX7_car_65 rfl rfl
theorem x_56_66 {ls st : List Value} {h : Hp}  : ex 56 66 ls (st) h = gI (ldI ls 3) 56 67 ls st h := x_iload_n hc_56 dX7_car_66 rfl rfl
theorem x_56_67 {ls st : List Value} {h : Hp} {k : Nat} {a0 : Int32} {a1 : Int32} {a2 : Int32} : ex 56 67 ls (.int a2 :: .int a1 :: .int a0 :: .ref k :: st) h = if kd k = 0 ∧ st.length ≤ 4 then gC (ex 0 0 [.ref k, .int a0, .int a1, .int a2, .null] [] h) 56 70 ls st else none := x_callV (as := [.int a0, .int a1, .int a2]) hc_56 dX7_car_67 rfl mr_7_144 rfl rfl rfl (by decide) (by decide)
theorem x_56_70 {ls st : List Value} {h : Hp}  : ex 56 70 ls (st) h = gA (ldA ls 0) 56 71 ls st h := x_aload_n hc_56 dX7_car_70 rfl rfl
theorem x_56_71i {ls st : List Value} {h : Hp} {u : Int32} : ex 56 71 ls (.int u :: st) h = ex 56 72 ls (.int u :: .int u :: st) h := x_dup_i hc_56 dX7_car_71 rfl
theorem x_56_71a {ls st : List Value} {h : Hp} {u : Nat} : ex 56 71 ls (.ref u :: st) h = ex 56 72 ls (.ref u :: .ref u :: st) h := x_dup_a hc_56 dX7_car_71 rfl
theorem x_56_72 {ls st : List Value} {h : Hp} {k : Nat} : ex 56 72 ls (.ref k :: st) h = if kd k = 7 then ex 56 75 ls (vl h k 12 :: st) h else none := x_getf hc_56 dX7_car_72 rfl fr_7_80
theorem x_56_75 {ls st : List Value} {h : Hp}  : ex 56 75 ls (st) h = ex 56 76 ls (.int (1) :: st) h := x_iconst hc_56 dX7_car_75 rfl (by decide)
theorem x_56_76 {ls st : List Value} {h : Hp} {a b : Int32} : ex 56 76 ls (.int b :: .int a :: st) h = ex 56 77 ls (.int (a + b) :: st) h := x_iadd hc_56 dX7_car_76 rfl
theorem x_56_77 {ls st : List Value} {h : Hp} {k : Nat} {x : Int32} : ex 56 77 ls (.int x :: .ref k :: st) h = if kd k = 7 then ex 56 80 ls st (hu h k 12 x) else none := x_putf hc_56 dX7_car_77 rfl fr_7_80 (by decide)
theorem x_56_80 {ls st : List Value} {h : Hp}  : ex 56 80 ls (st) h = gA (ldA ls 0) 56 81 ls st h := x_aload_n hc_56 dX7_car_80 rfl rfl
theorem x_56_81 {ls st : List Value} {h : Hp} {k : Nat} : ex 56 81 ls (.ref k :: st) h = if kd k = 7 then ex 56 84 ls (vl h k 12 :: st) h else none := x_getf hc_56 dX7_car_81 rfl fr_7_80
theorem x_56_84 {ls st : List Value} {h : Hp}  : ex 56 84 ls (st) h = ex 56 85 ls (.int (1) :: st) h := x_iconst hc_56 dX7_car_84 rfl (by decide)
theorem x_56_85 {ls st : List Value} {h : Hp} {a b : Int32} : ex 56 85 ls (.int b :: .int a :: st) h = ex 56 86 ls (.int (a - b) :: st) h := x_isub hc_56 dX7_car_85 rfl
theorem x_56_86 {ls : List Value} {h : Hp} {v : Int32} : ex 56 86 ls [.int v] h = some (some (.int v), h) := x_iret hc_56 dX7_car_86 rfl
