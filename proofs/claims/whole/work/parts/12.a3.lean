theorem x_98_0 {ls st : List Value} {h : Hp}  : ex 98 0 ls (st) h = gA (ldA ls 0) 98 1 ls st h := x_aload_n hc_98 dX8_zero_0 rfl rfl
theorem x_98_1 {ls st : List Value} {h : Hp} {k : Nat} : ex 98 1 ls (.ref k :: st) h = if kd k = 8 then ex 98 4 ls (vl h k 50 :: st) h else none := x_getf hc_98 dX8_zero_1 rfl fr_8_135
theorem x_98_4 {ls st : List Value} {h : Hp}  : ex 98 4 ls (st) h = gI (ldI ls 1) 98 5 ls st h := x_iload_n hc_98 dX8_zero_4 rfl rfl
theorem x_98_5 {ls st : List Value} {h : Hp} {a : Int32} : ex 98 5 ls (.int a :: st) h = ex 98 6 ls (.int (-a) :: st) h := x_ineg hc_98 dX8_zero_5 rfl
theorem x_98_6ii {ls st : List Value} {h : Hp} {u : Int32} {v : Int32} : ex 98 6 ls (.int u :: .int v :: st) h = ex 98 7 ls (.int u :: .int v :: .int u :: .int v :: st) h := x_dup2_ii hc_98 dX8_zero_6 rfl
theorem x_98_6ia {ls st : List Value} {h : Hp} {u : Int32} {v : Nat} : ex 98 6 ls (.int u :: .ref v :: st) h = ex 98 7 ls (.int u :: .ref v :: .int u :: .ref v :: st) h := x_dup2_ia hc_98 dX8_zero_6 rfl
theorem x_98_6ai {ls st : List Value} {h : Hp} {u : Nat} {v : Int32} : ex 98 6 ls (.ref u :: .int v :: st) h = ex 98 7 ls (.ref u :: .int v :: .ref u :: .int v :: st) h := x_dup2_ai hc_98 dX8_zero_6 rfl
theorem x_98_6aa {ls st : List Value} {h : Hp} {u : Nat} {v : Nat} : ex 98 6 ls (.ref u :: .ref v :: st) h = ex 98 7 ls (.ref u :: .ref v :: .ref u :: .ref v :: st) h := x_dup2_aa hc_98 dX8_zero_6 rfl
theorem x_98_7 {ls st : List Value} {h : Hp} {k : Nat} {x : Int32} : ex 98 7 ls (.int x :: .ref k :: st) h = if kd k = 9 ∧ x.toNatClampNeg < ln k ∧ 0 ≤ x then ex 98 8 ls (.int (h k x.toNatClampNeg) :: st) h else none := x_iald hc_98 dX8_zero_7 rfl
theorem x_98_8 {ls st : List Value} {h : Hp}  : ex 98 8 ls (st) h = ex 98 9 ls (.int (1) :: st) h := x_iconst hc_98 dX8_zero_8 rfl (by decide)
theorem x_98_9 {ls st : List Value} {h : Hp} {a b : Int32} : ex 98 9 ls (.int b :: .int a :: st) h = ex 98 10 ls (.int (a + b) :: st) h := x_iadd hc_98 dX8_zero_9 rfl
theorem x_98_10 {ls st : List Value} {h : Hp} {k : Nat} {x u : Int32} : ex 98 10 ls (.int u :: .int x :: .ref k :: st) h = if kd k = 9 ∧ x.toNatClampNeg < ln k ∧ 0 ≤ x then ex 98 11 ls st (hu h k x.toNatClampNeg u) else none := x_iast hc_98 dX8_zero_10 rfl
theorem x_98_11 {ls st : List Value} {h : Hp}  : ex 98 11 ls (st) h = ex 98 12 ls (.int (0) :: st) h := x_iconst hc_98 dX8_zero_11 rfl (by decide)
theorem x_98_12 {ls : List Value} {h : Hp} {v : Int32} : ex 98 12 ls [.int v] h = some (some (.int v), h) := x_iret hc_98 dX8_zero_12 rfl
theorem x_99_0 {ls st : List Value} {h : Hp}  : ex 99 0 ls (st) h = gA (ldA ls 0) 99 1 ls st h := x_aload_n hc_99 dX8_read_0 rfl rfl
theorem x_99_1 {ls st : List Value} {h : Hp}  : ex 99 1 ls (st) h = gI (ldI ls 1) 99 2 ls st h := x_iload_n hc_99 dX8_read_1 rfl rfl
theorem x_99_2 {ls st : List Value} {h : Hp} {k : Nat} {a0 : Int32} : ex 99 2 ls (.int a0 :: .ref k :: st) h = if kd k = 8 ∧ st.length ≤ 4 then gC (ex 94 0 [.ref k, .int a0] [] h) 99 5 ls st else none := x_callV (as := [.int a0]) hc_99 dX8_read_2 rfl mr_8_152 rfl rfl rfl (by decide) (by decide)
theorem x_99_5 {ls st : List Value} {h : Hp} {x : Int32} : ex 99 5 ls (.int x :: st) h = if x = 0 then ex 99 8 ls st h else ex 99 15 ls st h := x_if_ne hc_99 dX8_read_5 rfl (by decide)
theorem x_99_8 {ls st : List Value} {h : Hp}  : ex 99 8 ls (st) h = gA (ldA ls 0) 99 9 ls st h := x_aload_n hc_99 dX8_read_8 rfl rfl
theorem x_99_9 {ls st : List Value} {h : Hp}  : ex 99 9 ls (st) h = ex 99 11 ls (.int (-3) :: st) h := x_bipush hc_99 dX8_read_9 rfl (by decide)
theorem x_99_11 {ls st : List Value} {h : Hp} {k : Nat} {a0 : Int32} : ex 99 11 ls (.int a0 :: .ref k :: st) h = if kd k = 8 ∧ st.length ≤ 4 then gC (ex 92 0 [.ref k, .int a0] [] h) 99 14 ls st else none := x_callV (as := [.int a0]) hc_99 dX8_read_11 rfl mr_8_148 rfl rfl rfl (by decide) (by decide)
theorem x_99_14 {ls : List Value} {h : Hp} {v : Int32} : ex 99 14 ls [.int v] h = some (some (.int v), h) := x_iret hc_99 dX8_read_14 rfl
theorem x_99_15 {ls st : List Value} {h : Hp}  : ex 99 15 ls (st) h = gA (ldA ls 0) 99 16 ls st h := x_aload_n hc_99 dX8_read_15 rfl rfl
theorem x_99_16 {ls st : List Value} {h : Hp} {k : Nat} : ex 99 16 ls (.ref k :: st) h = if kd k = 8 then ex 99 19 ls (vl h k 51 :: st) h else none := x_getf hc_99 dX8_read_16 rfl fr_8_160
theorem x_99_19 {ls st : List Value} {h : Hp} {x : Int32} : ex 99 19 ls (.int x :: st) h = if x = 0 then ex 99 22 ls st h else ex 99 29 ls st h := x_if_ne hc_99 dX8_read_19 rfl (by decide)
theorem x_99_22 {ls st : List Value} {h : Hp}  : ex 99 22 ls (st) h = gA (ldA ls 0) 99 23 ls st h := x_aload_n hc_99 dX8_read_22 rfl rfl
theorem x_99_23 {ls st : List Value} {h : Hp}  : ex 99 23 ls (st) h = ex 99 25 ls (.int (-2) :: st) h := x_bipush hc_99 dX8_read_23 rfl (by decide)
theorem x_99_25 {ls st : List Value} {h : Hp} {k : Nat} {a0 : Int32} : ex 99 25 ls (.int a0 :: .ref k :: st) h = if kd k = 8 ∧ st.length ≤ 4 then gC (ex 92 0 [.ref k, .int a0] [] h) 99 28 ls st else none := x_callV (as := [.int a0]) hc_99 dX8_read_25 rfl mr_8_148 rfl rfl rfl (by decide) (by decide)
theorem x_99_28 {ls : List Value} {h : Hp} {v : Int32} : ex 99 28 ls [.int v] h = some (some (.int v), h) := x_iret hc_99 dX8_read_28 rfl
theorem x_99_29 {ls st : List Value} {h : Hp}  : ex 99 29 ls (st) h = ex 99 30 ls (.int (0) :: st) h := x_iconst hc_99 dX8_read_29 rfl (by decide)
theorem x_99_30 {ls st : List Value} {h : Hp} {x : Int32} : ex 99 30 ls (.int x :: st) h = ex 99 31 (ls.set 2 (.int x)) st h := x_istore_n hc_99 dX8_read_30 rfl rfl (by decide)
theorem x_99_31 {ls st : List Value} {h : Hp}  : ex 99 31 ls (st) h = ex 99 32 ls (.int (0) :: st) h := x_iconst hc_99 dX8_read_31 rfl (by decide)
theorem x_99_32 {ls st : List Value} {h : Hp} {x : Int32} : ex 99 32 ls (.int x :: st) h = ex 99 33 (ls.set 3 (.int x)) st h := x_istore_n hc_99 dX8_read_32 rfl rfl (by decide)
theorem x_99_33 {ls st : List Value} {h : Hp}  : ex 99 33 ls (st) h = gI (ldI ls 3) 99 34 ls st h := x_iload_n hc_99 dX8_read_33 rfl rfl
theorem x_99_34 {ls st : List Value} {h : Hp}  : ex 99 34 ls (st) h = ex 99 36 ls (.int (48) :: st) h := x_bipush hc_99 dX8_read_34 rfl (by decide)
theorem x_99_36 {ls st : List Value} {h : Hp} {x z : Int32} : ex 99 36 ls (.int z :: .int x :: st) h = if x < z then ex 99 39 ls st h else ex 99 112 ls st h := x_icmp_ge hc_99 dX8_read_36 rfl (by decide)
theorem x_99_39 {ls st : List Value} {h : Hp}  : ex 99 39 ls (st) h = gA (ldA ls 0) 99 40 ls st h := x_aload_n hc_99 dX8_read_39 rfl rfl
theorem x_99_40 {ls st : List Value} {h : Hp} {k : Nat} : ex 99 40 ls (.ref k :: st) h = if kd k = 8 then ex 99 43 ls (vl h k 48 :: st) h else none := x_getf hc_99 dX8_read_40 rfl fr_8_129
theorem x_99_43 {ls st : List Value} {h : Hp}  : ex 99 43 ls (st) h = gI (ldI ls 3) 99 44 ls st h := x_iload_n hc_99 dX8_read_43 rfl rfl
theorem x_99_44 {ls st : List Value} {h : Hp} {k : Nat} {x : Int32} : ex 99 44 ls (.int x :: .ref k :: st) h = if kd k = 9 ∧ x.toNatClampNeg < ln k ∧ 0 ≤ x then ex 99 45 ls (.int (h k x.toNatClampNeg) :: st) h else none := x_iald hc_99 dX8_read_44 rfl
theorem x_99_45 {ls st : List Value} {h : Hp}  : ex 99 45 ls (st) h = ex 99 48 ls (.int (-400) :: st) h := x_sipush hc_99 dX8_read_45 rfl (by decide)
theorem x_99_48 {ls st : List Value} {h : Hp} {x z : Int32} : ex 99 48 ls (.int z :: .int x :: st) h = if x < z then ex 99 67 ls st h else ex 99 51 ls st h := x_icmp_lt hc_99 dX8_read_48 rfl (by decide)
theorem x_99_51 {ls st : List Value} {h : Hp}  : ex 99 51 ls (st) h = gA (ldA ls 0) 99 52 ls st h := x_aload_n hc_99 dX8_read_51 rfl rfl
theorem x_99_52 {ls st : List Value} {h : Hp} {k : Nat} : ex 99 52 ls (.ref k :: st) h = if kd k = 8 then ex 99 55 ls (vl h k 48 :: st) h else none := x_getf hc_99 dX8_read_52 rfl fr_8_129
theorem x_99_55 {ls st : List Value} {h : Hp}  : ex 99 55 ls (st) h = gI (ldI ls 3) 99 56 ls st h := x_iload_n hc_99 dX8_read_55 rfl rfl
theorem x_99_56 {ls st : List Value} {h : Hp} {k : Nat} {x : Int32} : ex 99 56 ls (.int x :: .ref k :: st) h = if kd k = 9 ∧ x.toNatClampNeg < ln k ∧ 0 ≤ x then ex 99 57 ls (.int (h k x.toNatClampNeg) :: st) h else none := x_iald hc_99 dX8_read_56 rfl
theorem x_99_57 {ls st : List Value} {h : Hp}  : ex 99 57 ls (st) h = ex 99 60 ls (.int (500) :: st) h := x_sipush hc_99 dX8_read_57 rfl (by decide)
theorem x_99_60 {ls st : List Value} {h : Hp} {x z : Int32} : ex 99 60 ls (.int z :: .int x :: st) h = if z < x then ex 99 67 ls st h else ex 99 63 ls st h := x_icmp_gt hc_99 dX8_read_60 rfl (by decide)
theorem x_99_63 {ls st : List Value} {h : Hp}  : ex 99 63 ls (st) h = ex 99 64 ls (.int (1) :: st) h := x_iconst hc_99 dX8_read_63 rfl (by decide)
theorem x_99_64 {ls st : List Value} {h : Hp}  : ex 99 64 ls (st) h = ex 99 68 ls st h := x_goto hc_99 dX8_read_64 (by decide)
theorem x_99_67 {ls st : List Value} {h : Hp}  : ex 99 67 ls (st) h = ex 99 68 ls (.int (0) :: st) h := x_iconst hc_99 dX8_read_67 rfl (by decide)
theorem x_99_68 {ls st : List Value} {h : Hp} {x : Int32} : ex 99 68 ls (.int x :: st) h = ex 99 70 (ls.set 4 (.int x)) st h := x_istore hc_99 dX8_read_68 rfl (by decide)
theorem x_99_70 {ls st : List Value} {h : Hp}  : ex 99 70 ls (st) h = gA (ldA ls 0) 99 71 ls st h := x_aload_n hc_99 dX8_read_70 rfl rfl
theorem x_99_71 {ls st : List Value} {h : Hp} {k : Nat} : ex 99 71 ls (.ref k :: st) h = if kd k = 8 then ex 99 74 ls (vl h k 15 :: st) h else none := x_getf hc_99 dX8_read_71 rfl fr_8_32
theorem x_99_74 {ls st : List Value} {h : Hp}  : ex 99 74 ls (st) h = ex 99 76 ls (.int (48) :: st) h := x_bipush hc_99 dX8_read_74 rfl (by decide)
theorem x_99_76 {ls st : List Value} {h : Hp}  : ex 99 76 ls (st) h = gI (ldI ls 1) 99 77 ls st h := x_iload_n hc_99 dX8_read_76 rfl rfl
theorem x_99_77 {ls st : List Value} {h : Hp} {a b : Int32} : ex 99 77 ls (.int b :: .int a :: st) h = ex 99 78 ls (.int (a * b) :: st) h := x_imul hc_99 dX8_read_77 rfl
theorem x_99_78 {ls st : List Value} {h : Hp}  : ex 99 78 ls (st) h = gI (ldI ls 3) 99 79 ls st h := x_iload_n hc_99 dX8_read_78 rfl rfl
theorem x_99_79 {ls st : List Value} {h : Hp} {a b : Int32} : ex 99 79 ls (.int b :: .int a :: st) h = ex 99 80 ls (.int (a + b) :: st) h := x_iadd hc_99 dX8_read_79 rfl
theorem x_99_80 {ls st : List Value} {h : Hp}  : ex 99 80 ls (st) h = gI (ldI ls 4) 99 82 ls st h := x_iload hc_99 dX8_read_80 rfl
theorem x_99_82 {ls st : List Value} {h : Hp} {x : Int32} : ex 99 82 ls (.int x :: st) h = if x = 0 then ex 99 94 ls st h else ex 99 85 ls st h := x_if_eq hc_99 dX8_read_82 rfl (by decide)
theorem x_99_85 {ls st : List Value} {h : Hp}  : ex 99 85 ls (st) h = gA (ldA ls 0) 99 86 ls st h := x_aload_n hc_99 dX8_read_85 rfl rfl
theorem x_99_86 {ls st : List Value} {h : Hp} {k : Nat} : ex 99 86 ls (.ref k :: st) h = if kd k = 8 then ex 99 89 ls (vl h k 48 :: st) h else none := x_getf hc_99 dX8_read_86 rfl fr_8_129
theorem x_99_89 {ls st : List Value} {h : Hp}  : ex 99 89 ls (st) h = gI (ldI ls 3) 99 90 ls st h := x_iload_n hc_99 dX8_read_89 rfl rfl
theorem x_99_90 {ls st : List Value} {h : Hp} {k : Nat} {x : Int32} : ex 99 90 ls (.int x :: .ref k :: st) h = if kd k = 9 ∧ x.toNatClampNeg < ln k ∧ 0 ≤ x then ex 99 91 ls (.int (h k x.toNatClampNeg) :: st) h else none := x_iald hc_99 dX8_read_90 rfl
theorem x_99_91 {ls st : List Value} {h : Hp}  : ex 99 91 ls (st) h = ex 99 97 ls st h := x_goto hc_99 dX8_read_91 (by decide)
theorem x_99_94 {ls st : List Value} {h : Hp}  : ex 99 94 ls (st) h = ex 99 97 ls (.int (-9999) :: st) h := x_sipush hc_99 dX8_read_94 rfl (by decide)
theorem x_99_97 {ls st : List Value} {h : Hp} {k : Nat} {x u : Int32} : ex 99 97 ls (.int u :: .int x :: .ref k :: st) h = if kd k = 9 ∧ x.toNatClampNeg < ln k ∧ 0 ≤ x then ex 99 98 ls st (hu h k x.toNatClampNeg u) else none := x_iast hc_99 dX8_read_97 rfl
theorem x_99_98 {ls st : List Value} {h : Hp}  : ex 99 98 ls (st) h = gI (ldI ls 4) 99 100 ls st h := x_iload hc_99 dX8_read_98 rfl
theorem x_99_100 {ls st : List Value} {h : Hp} {x : Int32} : ex 99 100 ls (.int x :: st) h = if x = 0 then ex 99 106 ls st h else ex 99 103 ls st h := x_if_eq hc_99 dX8_read_100 rfl (by decide)
theorem x_99_103 {ls st : List Value} {h : Hp}  : ex 99 103 ls (st) h = gN (ldI ls 2) 99 106 ls 2 (1) st h := x_iinc hc_99 dX8_read_103 rfl (by decide) (by decide)
theorem x_99_106 {ls st : List Value} {h : Hp}  : ex 99 106 ls (st) h = gN (ldI ls 3) 99 109 ls 3 (1) st h := x_iinc hc_99 dX8_read_106 rfl (by decide) (by decide)
theorem x_99_109 {ls st : List Value} {h : Hp}  : ex 99 109 ls (st) h = ex 99 33 ls st h := x_goto hc_99 dX8_read_109 (by decide)
theorem x_99_112 {ls st : List Value} {h : Hp}  : ex 99 112 ls (st) h = gI (ldI ls 2) 99 113 ls st h := x_iload_n hc_99 dX8_read_112 rfl rfl
theorem x_99_113 {ls : List Value} {h : Hp} {v : Int32} : ex 99 113 ls [.int v] h = some (some (.int v), h) := x_iret hc_99 dX8_read_113 rfl
theorem x_100_0 {ls st : List Value} {h : Hp}  : ex 100 0 ls (st) h = gA (ldA ls 0) 100 1 ls st h := x_aload_n hc_100 dX8_out_0 rfl rfl
theorem x_100_1 {ls st : List Value} {h : Hp}  : ex 100 1 ls (st) h = gI (ldI ls 1) 100 2 ls st h := x_iload_n hc_100 dX8_out_1 rfl rfl
theorem x_100_2 {ls st : List Value} {h : Hp} {k : Nat} {a0 : Int32} : ex 100 2 ls (.int a0 :: .ref k :: st) h = if kd k = 8 ∧ st.length ≤ 4 then gC (ex 94 0 [.ref k, .int a0] [] h) 100 5 ls st else none := x_callV (as := [.int a0]) hc_100 dX8_out_2 rfl mr_8_152 rfl rfl rfl (by decide) (by decide)
theorem x_100_5 {ls st : List Value} {h : Hp} {x : Int32} : ex 100 5 ls (.int x :: st) h = if x = 0 then ex 100 21 ls st h else ex 100 8 ls st h := x_if_eq hc_100 dX8_out_5 rfl (by decide)
theorem x_100_8 {ls st : List Value} {h : Hp}  : ex 100 8 ls (st) h = gI (ldI ls 2) 100 9 ls st h := x_iload_n hc_100 dX8_out_8 rfl rfl
theorem x_100_9 {ls st : List Value} {h : Hp} {x : Int32} : ex 100 9 ls (.int x :: st) h = if x < 0 then ex 100 21 ls st h else ex 100 12 ls st h := x_if_lt hc_100 dX8_out_9 rfl (by decide)
theorem x_100_12 {ls st : List Value} {h : Hp}  : ex 100 12 ls (st) h = gA (ldA ls 0) 100 13 ls st h := x_aload_n hc_100 dX8_out_12 rfl rfl
theorem x_100_13 {ls st : List Value} {h : Hp}  : ex 100 13 ls (st) h = gI (ldI ls 1) 100 14 ls st h := x_iload_n hc_100 dX8_out_13 rfl rfl
theorem x_100_14 {ls st : List Value} {h : Hp}  : ex 100 14 ls (st) h = gI (ldI ls 2) 100 15 ls st h := x_iload_n hc_100 dX8_out_14 rfl rfl
theorem x_100_15 {ls st : List Value} {h : Hp} {k : Nat} {a0 : Int32} {a1 : Int32} : ex 100 15 ls (.int a1 :: .int a0 :: .ref k :: st) h = if kd k = 8 ∧ st.length ≤ 4 then gC (ex 101 0 [.ref k, .int a0, .int a1, .null, .null] [] h) 100 18 ls st else none := x_callV (as := [.int a0, .int a1]) hc_100 dX8_out_15 rfl mr_8_164 rfl rfl rfl (by decide) (by decide)
theorem x_100_18 {ls st : List Value} {h : Hp}  : ex 100 18 ls (st) h = ex 100 27 ls st h := x_goto hc_100 dX8_out_18 (by decide)
theorem x_100_21 {ls st : List Value} {h : Hp}  : ex 100 21 ls (st) h = gA (ldA ls 0) 100 22 ls st h := x_aload_n hc_100 dX8_out_21 rfl rfl
theorem x_100_22 {ls st : List Value} {h : Hp}  : ex 100 22 ls (st) h = ex 100 24 ls (.int (-3) :: st) h := x_bipush hc_100 dX8_out_22 rfl (by decide)
theorem x_100_24 {ls st : List Value} {h : Hp} {k : Nat} {a0 : Int32} : ex 100 24 ls (.int a0 :: .ref k :: st) h = if kd k = 8 ∧ st.length ≤ 4 then gC (ex 98 0 [.ref k, .int a0] [] h) 100 27 ls st else none := x_callV (as := [.int a0]) hc_100 dX8_out_24 rfl mr_8_157 rfl rfl rfl (by decide) (by decide)
theorem x_100_27 {ls : List Value} {h : Hp} {v : Int32} : ex 100 27 ls [.int v] h = some (some (.int v), h) := x_iret hc_100 dX8_out_27 rfl
theorem x_101_0 {ls st : List Value} {h : Hp}  : ex 101 0 ls (st) h = ex 101 1 ls (.int (0) :: st) h := x_iconst hc_101 dX8_outAt_0 rfl (by decide)
theorem x_101_1 {ls st : List Value} {h : Hp} {x : Int32} : ex 101 1 ls (.int x :: st) h = ex 101 2 (ls.set 3 (.int x)) st h := x_istore_n hc_101 dX8_outAt_1 rfl rfl (by decide)
theorem x_101_2 {ls st : List Value} {h : Hp}  : ex 101 2 ls (st) h = gI (ldI ls 3) 101 3 ls st h := x_iload_n hc_101 dX8_outAt_2 rfl rfl
theorem x_101_3 {ls st : List Value} {h : Hp}  : ex 101 3 ls (st) h = ex 101 5 ls (.int (48) :: st) h := x_bipush hc_101 dX8_outAt_3 rfl (by decide)
theorem x_101_5 {ls st : List Value} {h : Hp} {x z : Int32} : ex 101 5 ls (.int z :: .int x :: st) h = if x < z then ex 101 8 ls st h else ex 101 49 ls st h := x_icmp_ge hc_101 dX8_outAt_5 rfl (by decide)
theorem x_101_8 {ls st : List Value} {h : Hp}  : ex 101 8 ls (st) h = gA (ldA ls 0) 101 9 ls st h := x_aload_n hc_101 dX8_outAt_8 rfl rfl
theorem x_101_9 {ls st : List Value} {h : Hp} {k : Nat} : ex 101 9 ls (.ref k :: st) h = if kd k = 8 then ex 101 12 ls (vl h k 15 :: st) h else none := x_getf hc_101 dX8_outAt_9 rfl fr_8_32
theorem x_101_12 {ls st : List Value} {h : Hp}  : ex 101 12 ls (st) h = ex 101 14 ls (.int (48) :: st) h := x_bipush hc_101 dX8_outAt_12 rfl (by decide)
theorem x_101_14 {ls st : List Value} {h : Hp}  : ex 101 14 ls (st) h = gI (ldI ls 1) 101 15 ls st h := x_iload_n hc_101 dX8_outAt_14 rfl rfl
theorem x_101_15 {ls st : List Value} {h : Hp} {a b : Int32} : ex 101 15 ls (.int b :: .int a :: st) h = ex 101 16 ls (.int (a * b) :: st) h := x_imul hc_101 dX8_outAt_15 rfl
theorem x_101_16 {ls st : List Value} {h : Hp}  : ex 101 16 ls (st) h = gI (ldI ls 2) 101 17 ls st h := x_iload_n hc_101 dX8_outAt_16 rfl rfl
theorem x_101_17 {ls st : List Value} {h : Hp}  : ex 101 17 ls (st) h = ex 101 19 ls (.int (48) :: st) h := x_bipush hc_101 dX8_outAt_17 rfl (by decide)
theorem x_101_19 {ls st : List Value} {h : Hp} {a b : Int32} : ex 101 19 ls (.int b :: .int a :: st) h = if b = 0 then none else ex 101 20 ls (.int (a % b) :: st) h := x_irem hc_101 dX8_outAt_19 rfl
theorem x_101_20 {ls st : List Value} {h : Hp}  : ex 101 20 ls (st) h = gI (ldI ls 3) 101 21 ls st h := x_iload_n hc_101 dX8_outAt_20 rfl rfl
theorem x_101_21 {ls st : List Value} {h : Hp} {a b : Int32} : ex 101 21 ls (.int b :: .int a :: st) h = ex 101 22 ls (.int (a - b) :: st) h := x_isub hc_101 dX8_outAt_21 rfl
theorem x_101_22 {ls st : List Value} {h : Hp}  : ex 101 22 ls (st) h = ex 101 24 ls (.int (48) :: st) h := x_bipush hc_101 dX8_outAt_22 rfl (by decide)
theorem x_101_24 {ls st : List Value} {h : Hp} {a b : Int32} : ex 101 24 ls (.int b :: .int a :: st) h = ex 101 25 ls (.int (a + b) :: st) h := x_iadd hc_101 dX8_outAt_24 rfl
theorem x_101_25 {ls st : List Value} {h : Hp}  : ex 101 25 ls (st) h = ex 101 27 ls (.int (48) :: st) h := x_bipush hc_101 dX8_outAt_25 rfl (by decide)
theorem x_101_27 {ls st : List Value} {h : Hp} {a b : Int32} : ex 101 27 ls (.int b :: .int a :: st) h = if b = 0 then none else ex 101 28 ls (.int (a % b) :: st) h := x_irem hc_101 dX8_outAt_27 rfl
theorem x_101_28 {ls st : List Value} {h : Hp} {a b : Int32} : ex 101 28 ls (.int b :: .int a :: st) h = ex 101 29 ls (.int (a + b) :: st) h := x_iadd hc_101 dX8_outAt_28 rfl
theorem x_101_29 {ls st : List Value} {h : Hp} {k : Nat} {x : Int32} : ex 101 29 ls (.int x :: .ref k :: st) h = if kd k = 9 ∧ x.toNatClampNeg < ln k ∧ 0 ≤ x then ex 101 30 ls (.int (h k x.toNatClampNeg) :: st) h else none := x_iald hc_101 dX8_outAt_29 rfl
theorem x_101_30 {ls st : List Value} {h : Hp} {x : Int32} : ex 101 30 ls (.int x :: st) h = ex 101 32 (ls.set 4 (.int x)) st h := x_istore hc_101 dX8_outAt_30 rfl (by decide)
theorem x_101_32 {ls st : List Value} {h : Hp}  : ex 101 32 ls (st) h = gI (ldI ls 4) 101 34 ls st h := x_iload hc_101 dX8_outAt_32 rfl
theorem x_101_34 {ls st : List Value} {h : Hp}  : ex 101 34 ls (st) h = ex 101 37 ls (.int (-9999) :: st) h := x_sipush hc_101 dX8_outAt_34 rfl (by decide)
theorem x_101_37 {ls st : List Value} {h : Hp} {x z : Int32} : ex 101 37 ls (.int z :: .int x :: st) h = if x = z then ex 101 43 ls st h else ex 101 40 ls st h := x_icmp_eq hc_101 dX8_outAt_37 rfl (by decide)
theorem x_101_40 {ls st : List Value} {h : Hp}  : ex 101 40 ls (st) h = gI (ldI ls 4) 101 42 ls st h := x_iload hc_101 dX8_outAt_40 rfl
theorem x_101_42 {ls : List Value} {h : Hp} {v : Int32} : ex 101 42 ls [.int v] h = some (some (.int v), h) := x_iret hc_101 dX8_outAt_42 rfl
theorem x_101_43 {ls st : List Value} {h : Hp}  : ex 101 43 ls (st) h = gN (ldI ls 3) 101 46 ls 3 (1) st h := x_iinc hc_101 dX8_outAt_43 rfl (by decide) (by decide)
theorem x_101_46 {ls st : List Value} {h : Hp}  : ex 101 46 ls (st) h = ex 101 2 ls st h := x_goto hc_101 dX8_outAt_46 (by decide)
theorem x_101_49 {ls st : List Value} {h : Hp}  : ex 101 49 ls (st) h = ex 101 52 ls (.int (150) :: st) h := x_sipush hc_101 dX8_outAt_49 rfl (by decide)
theorem x_101_52 {ls : List Value} {h : Hp} {v : Int32} : ex 101 52 ls [.int v] h = some (some (.int v), h) := x_iret hc_101 dX8_outAt_52 rfl
theorem x_102_0 {ls st : List Value} {h : Hp}  : ex 102 0 ls (st) h = gI (ldI ls 1) 102 1 ls st h := x_iload_n hc_102 dX8_loss_0 rfl rfl
theorem x_102_1 {ls st : List Value} {h : Hp} {x : Int32} : ex 102 1 ls (.int x :: st) h = if x < 0 then ex 102 10 ls st h else ex 102 4 ls st h := x_if_lt hc_102 dX8_loss_1 rfl (by decide)
theorem x_102_4 {ls st : List Value} {h : Hp}  : ex 102 4 ls (st) h = gI (ldI ls 1) 102 5 ls st h := x_iload_n hc_102 dX8_loss_4 rfl rfl
theorem x_102_5 {ls st : List Value} {h : Hp}  : ex 102 5 ls (st) h = ex 102 7 ls (.int (9) :: st) h := x_bipush hc_102 dX8_loss_5 rfl (by decide)
theorem x_102_7 {ls st : List Value} {h : Hp} {x z : Int32} : ex 102 7 ls (.int z :: .int x :: st) h = if z < x then ex 102 10 ls st h else ex 102 17 ls st h := x_icmp_le hc_102 dX8_loss_7 rfl (by decide)
theorem x_102_10 {ls st : List Value} {h : Hp}  : ex 102 10 ls (st) h = gA (ldA ls 0) 102 11 ls st h := x_aload_n hc_102 dX8_loss_10 rfl rfl
theorem x_102_11 {ls st : List Value} {h : Hp}  : ex 102 11 ls (st) h = ex 102 13 ls (.int (-3) :: st) h := x_bipush hc_102 dX8_loss_11 rfl (by decide)
theorem x_102_13 {ls st : List Value} {h : Hp} {k : Nat} {a0 : Int32} : ex 102 13 ls (.int a0 :: .ref k :: st) h = if kd k = 8 ∧ st.length ≤ 4 then gC (ex 92 0 [.ref k, .int a0] [] h) 102 16 ls st else none := x_callV (as := [.int a0]) hc_102 dX8_loss_13 rfl mr_8_148 rfl rfl rfl (by decide) (by decide)
theorem x_102_16 {ls : List Value} {h : Hp} {v : Int32} : ex 102 16 ls [.int v] h = some (some (.int v), h) := x_iret hc_102 dX8_loss_16 rfl
theorem x_102_17 {ls st : List Value} {h : Hp}  : ex 102 17 ls (st) h = gI (ldI ls 2) 102 18 ls st h := x_iload_n hc_102 dX8_loss_17 rfl rfl
theorem x_102_18 {ls st : List Value} {h : Hp} {x : Int32} : ex 102 18 ls (.int x :: st) h = if x < 0 then ex 102 28 ls st h else ex 102 21 ls st h := x_if_lt hc_102 dX8_loss_18 rfl (by decide)
theorem x_102_21 {ls st : List Value} {h : Hp}  : ex 102 21 ls (st) h = gI (ldI ls 2) 102 22 ls st h := x_iload_n hc_102 dX8_loss_21 rfl rfl
theorem x_102_22 {ls st : List Value} {h : Hp}  : ex 102 22 ls (st) h = ex 102 25 ls (.int (999) :: st) h := x_sipush hc_102 dX8_loss_22 rfl (by decide)
theorem x_102_25 {ls st : List Value} {h : Hp} {x z : Int32} : ex 102 25 ls (.int z :: .int x :: st) h = if z < x then ex 102 28 ls st h else ex 102 35 ls st h := x_icmp_le hc_102 dX8_loss_25 rfl (by decide)
theorem x_102_28 {ls st : List Value} {h : Hp}  : ex 102 28 ls (st) h = gA (ldA ls 0) 102 29 ls st h := x_aload_n hc_102 dX8_loss_28 rfl rfl
theorem x_102_29 {ls st : List Value} {h : Hp}  : ex 102 29 ls (st) h = ex 102 31 ls (.int (-7) :: st) h := x_bipush hc_102 dX8_loss_29 rfl (by decide)
theorem x_102_31 {ls st : List Value} {h : Hp} {k : Nat} {a0 : Int32} : ex 102 31 ls (.int a0 :: .ref k :: st) h = if kd k = 8 ∧ st.length ≤ 4 then gC (ex 92 0 [.ref k, .int a0] [] h) 102 34 ls st else none := x_callV (as := [.int a0]) hc_102 dX8_loss_31 rfl mr_8_148 rfl rfl rfl (by decide) (by decide)
theorem x_102_34 {ls : List Value} {h : Hp} {v : Int32} : ex 102 34 ls [.int v] h = some (some (.int v), h) := x_iret hc_102 dX8_loss_34 rfl
theorem x_102_35 {ls st : List Value} {h : Hp}  : ex 102 35 ls (st) h = gA (ldA ls 0) 102 36 ls st h := x_aload_n hc_102 dX8_loss_35 rfl rfl
theorem x_102_36 {ls st : List Value} {h : Hp} {k : Nat} : ex 102 36 ls (.ref k :: st) h = if kd k = 8 then ex 102 39 ls (vl h k 16 :: st) h else none := x_getf hc_102 dX8_loss_36 rfl fr_8_35
theorem x_102_39 {ls st : List Value} {h : Hp}  : ex 102 39 ls (st) h = gI (ldI ls 1) 102 40 ls st h := x_iload_n hc_102 dX8_loss_39 rfl rfl
theorem x_102_40 {ls st : List Value} {h : Hp} {k : Nat} {x : Int32} : ex 102 40 ls (.int x :: .ref k :: st) h = if kd k = 9 ∧ x.toNatClampNeg < ln k ∧ 0 ≤ x then ex 102 41 ls (.int (h k x.toNatClampNeg) :: st) h else none := x_iald hc_102 dX8_loss_40 rfl
theorem x_102_41 {ls st : List Value} {h : Hp} {x : Int32} : ex 102 41 ls (.int x :: st) h = ex 102 42 (ls.set 3 (.int x)) st h := x_istore_n hc_102 dX8_loss_41 rfl rfl (by decide)
theorem x_102_42 {ls st : List Value} {h : Hp}  : ex 102 42 ls (st) h = gA (ldA ls 0) 102 43 ls st h := x_aload_n hc_102 dX8_loss_42 rfl rfl
theorem x_102_43 {ls st : List Value} {h : Hp} {k : Nat} : ex 102 43 ls (.ref k :: st) h = if kd k = 8 then ex 102 46 ls (vl h k 16 :: st) h else none := x_getf hc_102 dX8_loss_43 rfl fr_8_35
theorem x_102_46 {ls st : List Value} {h : Hp}  : ex 102 46 ls (st) h = gI (ldI ls 1) 102 47 ls st h := x_iload_n hc_102 dX8_loss_46 rfl rfl
theorem x_102_47 {ls st : List Value} {h : Hp}  : ex 102 47 ls (st) h = gI (ldI ls 2) 102 48 ls st h := x_iload_n hc_102 dX8_loss_47 rfl rfl
theorem x_102_48 {ls st : List Value} {h : Hp} {k : Nat} {x u : Int32} : ex 102 48 ls (.int u :: .int x :: .ref k :: st) h = if kd k = 9 ∧ x.toNatClampNeg < ln k ∧ 0 ≤ x then ex 102 49 ls st (hu h k x.toNatClampNeg u) else none := x_iast hc_102 dX8_loss_48 rfl
theorem x_102_49 {ls st : List Value} {h : Hp}  : ex 102 49 ls (st) h = gI (ldI ls 3) 102 50 ls st h := x_iload_n hc_102 dX8_loss_49 rfl rfl
theorem x_102_50 {ls : List Value} {h : Hp} {v : Int32} : ex 102 50 ls [.int v] h = some (some (.int v), h) := x_iret hc_102 dX8_loss_50 rfl
theorem x_103_0 {ls st : List Value} {h : Hp}  : ex 103 0 ls (st) h = gA (ldA ls 0) 103 1 ls st h := x_aload_n hc_103 dX8_car_0 rfl rfl
theorem x_103_1 {ls st : List Value} {h : Hp}  : ex 103 1 ls (st) h = gI (ldI ls 1) 103 2 ls st h := x_iload_n hc_103 dX8_car_1 rfl rfl
theorem x_103_2 {ls st : List Value} {h : Hp} {k : Nat} {a0 : Int32} : ex 103 2 ls (.int a0 :: .ref k :: st) h = if kd k = 8 ∧ st.length ≤ 4 then gC (ex 94 0 [.ref k, .int a0] [] h) 103 5 ls st else none := x_callV (as := [.int a0]) hc_103 dX8_car_2 rfl mr_8_152 rfl rfl rfl (by decide) (by decide)
theorem x_103_5 {ls st : List Value} {h : Hp} {x : Int32} : ex 103 5 ls (.int x :: st) h = if x = 0 then ex 103 8 ls st h else ex 103 15 ls st h := x_if_ne hc_103 dX8_car_5 rfl (by decide)
theorem x_103_8 {ls st : List Value} {h : Hp}  : ex 103 8 ls (st) h = gA (ldA ls 0) 103 9 ls st h := x_aload_n hc_103 dX8_car_8 rfl rfl
theorem x_103_9 {ls st : List Value} {h : Hp}  : ex 103 9 ls (st) h = ex 103 11 ls (.int (-3) :: st) h := x_bipush hc_103 dX8_car_9 rfl (by decide)
theorem x_103_11 {ls st : List Value} {h : Hp} {k : Nat} {a0 : Int32} : ex 103 11 ls (.int a0 :: .ref k :: st) h = if kd k = 8 ∧ st.length ≤ 4 then gC (ex 92 0 [.ref k, .int a0] [] h) 103 14 ls st else none := x_callV (as := [.int a0]) hc_103 dX8_car_11 rfl mr_8_148 rfl rfl rfl (by decide) (by decide)
theorem x_103_14 {ls : List Value} {h : Hp} {v : Int32} : ex 103 14 ls [.int v] h = some (some (.int v), h) := x_iret hc_103 dX8_car_14 rfl
theorem x_103_15 {ls st : List Value} {h : Hp}  : ex 103 15 ls (st) h = gI (ldI ls 2) 103 16 ls st h := x_iload_n hc_103 dX8_car_15 rfl rfl
theorem x_103_16 {ls st : List Value} {h : Hp}  : ex 103 16 ls (st) h = ex 103 17 ls (.int (1) :: st) h := x_iconst hc_103 dX8_car_16 rfl (by decide)
theorem x_103_17 {ls st : List Value} {h : Hp} {x z : Int32} : ex 103 17 ls (.int z :: .int x :: st) h = if x < z then ex 103 40 ls st h else ex 103 20 ls st h := x_icmp_lt hc_103 dX8_car_17 rfl (by decide)
theorem x_103_20 {ls st : List Value} {h : Hp}  : ex 103 20 ls (st) h = gI (ldI ls 2) 103 21 ls st h := x_iload_n hc_103 dX8_car_20 rfl rfl
theorem x_103_21 {ls st : List Value} {h : Hp}  : ex 103 21 ls (st) h = ex 103 23 ls (.int (40) :: st) h := x_bipush hc_103 dX8_car_21 rfl (by decide)
theorem x_103_23 {ls st : List Value} {h : Hp} {x z : Int32} : ex 103 23 ls (.int z :: .int x :: st) h = if z < x then ex 103 40 ls st h else ex 103 26 ls st h := x_icmp_gt hc_103 dX8_car_23 rfl (by decide)
theorem x_103_26 {ls st : List Value} {h : Hp}  : ex 103 26 ls (st) h = gI (ldI ls 3) 103 27 ls st h := x_iload_n hc_103 dX8_car_26 rfl rfl
theorem x_103_27 {ls st : List Value} {h : Hp}  : ex 103 27 ls (st) h = ex 103 30 ls (.int (-400) :: st) h := x_sipush hc_103 dX8_car_27 rfl (by decide)
theorem x_103_30 {ls st : List Value} {h : Hp} {x z : Int32} : ex 103 30 ls (.int z :: .int x :: st) h = if x < z then ex 103 40 ls st h else ex 103 33 ls st h := x_icmp_lt hc_103 dX8_car_30 rfl (by decide)
theorem x_103_33 {ls st : List Value} {h : Hp}  : ex 103 33 ls (st) h = gI (ldI ls 3) 103 34 ls st h := x_iload_n hc_103 dX8_car_33 rfl rfl
theorem x_103_34 {ls st : List Value} {h : Hp}  : ex 103 34 ls (st) h = ex 103 37 ls (.int (500) :: st) h := x_sipush hc_103 dX8_car_34 rfl (by decide)
theorem x_103_37 {ls st : List Value} {h : Hp} {x z : Int32} : ex 103 37 ls (.int z :: .int x :: st) h = if z < x then ex 103 40 ls st h else ex 103 47 ls st h := x_icmp_le hc_103 dX8_car_37 rfl (by decide)
theorem x_103_40 {ls st : List Value} {h : Hp}  : ex 103 40 ls (st) h = gA (ldA ls 0) 103 41 ls st h := x_aload_n hc_103 dX8_car_40 rfl rfl
theorem x_103_41 {ls st : List Value} {h : Hp}  : ex 103 41 ls (st) h = ex 103 43 ls (.int (-7) :: st) h := x_bipush hc_103 dX8_car_41 rfl (by decide)
theorem x_103_43 {ls st : List Value} {h : Hp} {k : Nat} {a0 : Int32} : ex 103 43 ls (.int a0 :: .ref k :: st) h = if kd k = 8 ∧ st.length ≤ 4 then gC (ex 92 0 [.ref k, .int a0] [] h) 103 46 ls st else none := x_callV (as := [.int a0]) hc_103 dX8_car_43 rfl mr_8_148 rfl rfl rfl (by decide) (by decide)
theorem x_103_46 {ls : List Value} {h : Hp} {v : Int32} : ex 103 46 ls [.int v] h = some (some (.int v), h) := x_iret hc_103 dX8_car_46 rfl
theorem x_103_47 {ls st : List Value} {h : Hp}  : ex 103 47 ls (st) h = gA (ldA ls 0) 103 48 ls st h := x_aload_n hc_103 dX8_car_47 rfl rfl
theorem x_103_48 {ls st : List Value} {h : Hp} {k : Nat} : ex 103 48 ls (.ref k :: st) h = if kd k = 8 then ex 103 51 ls (vl h k 2 :: st) h else none := x_getf hc_103 dX8_car_48 rfl fr_8_145
theorem x_103_51 {ls st : List Value} {h : Hp}  : ex 103 51 ls (st) h = ex 103 53 ls (.int (10) :: st) h := x_bipush hc_103 dX8_car_51 rfl (by decide)
theorem x_103_53 {ls st : List Value} {h : Hp} {x z : Int32} : ex 103 53 ls (.int z :: .int x :: st) h = if x = z then ex 103 56 ls st h else ex 103 63 ls st h := x_icmp_ne hc_103 dX8_car_53 rfl (by decide)
theorem x_103_56 {ls st : List Value} {h : Hp}  : ex 103 56 ls (st) h = gA (ldA ls 0) 103 57 ls st h := x_aload_n hc_103 dX8_car_56 rfl rfl
theorem x_103_57 {ls st : List Value} {h : Hp}  : ex 103 57 ls (st) h = ex 103 59 ls (.int (-8) :: st) h := x_bipush hc_103 dX8_car_57 rfl (by decide)
theorem x_103_59 {ls st : List Value} {h : Hp} {k : Nat} {a0 : Int32} : ex 103 59 ls (.int a0 :: .ref k :: st) h = if kd k = 8 ∧ st.length ≤ 4 then gC (ex 92 0 [.ref k, .int a0] [] h) 103 62 ls st else none := x_callV (as := [.int a0]) hc_103 dX8_car_59 rfl mr_8_148 rfl rfl rfl (by decide) (by decide)
theorem x_103_62 {ls : List Value} {h : Hp} {v : Int32} : ex 103 62 ls [.int v] h = some (some (.int v), h) := x_iret hc_103 dX8_car_62 rfl
theorem x_103_63 {ls st : List Value} {h : Hp}  : ex 103 63 ls (st) h = gA (ldA ls 0) 103 64 ls st h := x_aload_n hc_103 dX8_car_63 rfl rfl
theorem x_103_64i {ls st : List Value} {h : Hp} {u : Int32} : ex 103 64 ls (.int u :: st) h = ex 103 65 ls (.int u :: .int u :: st) h := x_dup_i hc_103 dX8_car_64 rfl
theorem x_103_64a {ls st : List Value} {h : Hp} {u : Nat} : ex 103 64 ls (.ref u :: st) h = ex 103 65 ls (.ref u :: .ref u :: st) h := x_dup_a hc_103 dX8_car_64 rfl
theorem x_103_65 {ls st : List Value} {h : Hp} {k : Nat} : ex 103 65 ls (.ref k :: st) h = if kd k = 8 then ex 103 68 ls (vl h k 2 :: st) h else none := x_getf hc_103 dX8_car_65 rfl fr_8_145
theorem x_103_68ii {ls st : List Value} {h : Hp} {u : Int32} {v : Int32} : ex 103 68 ls (.int u :: .int v :: st) h = ex 103 69 ls (.int u :: .int v :: .int u :: st) h := x_dup_x1_ii hc_103 dX8_car_68 rfl
theorem x_103_68ia {ls st : List Value} {h : Hp} {u : Int32} {v : Nat} : ex 103 68 ls (.int u :: .ref v :: st) h = ex 103 69 ls (.int u :: .ref v :: .int u :: st) h := x_dup_x1_ia hc_103 dX8_car_68 rfl
theorem x_103_68ai {ls st : List Value} {h : Hp} {u : Nat} {v : Int32} : ex 103 68 ls (.ref u :: .int v :: st) h = ex 103 69 ls (.ref u :: .int v :: .ref u :: st) h := x_dup_x1_ai hc_103 dX8_car_68 rfl
theorem x_103_68aa {ls st : List Value} {h : Hp} {u : Nat} {v : Nat} : ex 103 68 ls (.ref u :: .ref v :: st) h = ex 103 69 ls (.ref u :: .ref v :: .ref u :: st) h := x_dup_x1_aa hc_103 dX8_car_68 rfl
theorem x_103_69 {ls st : List Value} {h : Hp}  : ex 103 69 ls (st) h = ex 103 70 ls (.int (1) :: st) h := x_iconst hc_103 dX8_car_69 rfl (by decide)
theorem x_103_70 {ls st : List Value} {h : Hp} {a b : Int32} : ex 103 70 ls (.int b :: .int a :: st) h = ex 103 71 ls (.int (a + b) :: st) h := x_iadd hc_103 dX8_car_70 rfl
theorem x_103_71 {ls st : List Value} {h : Hp} {k : Nat} {x : Int32} : ex 103 71 ls (.int x :: .ref k :: st) h = if kd k = 8 then ex 103 74 ls st (hu h k 2 x) else none := x_putf hc_103 dX8_car_71 rfl fr_8_145 (by decide)
theorem x_103_74 {ls st : List Value} {h : Hp} {x : Int32} : ex 103 74 ls (.int x :: st) h = ex 103 76 (ls.set 4 (.int x)) st h := x_istore hc_103 dX8_car_74 rfl (by decide)
theorem x_103_76 {ls st : List Value} {h : Hp}  : ex 103 76 ls (st) h = gA (ldA ls 0) 103 77 ls st h := x_aload_n hc_103 dX8_car_76 rfl rfl
theorem x_103_77 {ls st : List Value} {h : Hp} {k : Nat} : ex 103 77 ls (.ref k :: st) h = if kd k = 8 then ex 103 80 ls (vl h k 17 :: st) h else none := x_getf hc_103 dX8_car_77 rfl fr_8_38
theorem x_103_80 {ls st : List Value} {h : Hp}  : ex 103 80 ls (st) h = gI (ldI ls 4) 103 82 ls st h := x_iload hc_103 dX8_car_80 rfl
theorem x_103_82 {ls st : List Value} {h : Hp}  : ex 103 82 ls (st) h = gI (ldI ls 2) 103 83 ls st h := x_iload_n hc_103 dX8_car_82 rfl rfl
theorem x_103_83 {ls st : List Value} {h : Hp} {k : Nat} {x u : Int32} : ex 103 83 ls (.int u :: .int x :: .ref k :: st) h = if kd k = 9 ∧ x.toNatClampNeg < ln k ∧ 0 ≤ x then ex 103 84 ls st (hu h k x.toNatClampNeg u) else none := x_iast hc_103 dX8_car_83 rfl
theorem x_103_84 {ls st : List Value} {h : Hp}  : ex 103 84 ls (st) h = gA (ldA ls 0) 103 85 ls st h := x_aload_n hc_103 dX8_car_84 rfl rfl
theorem x_103_85 {ls st : List Value} {h : Hp} {k : Nat} : ex 103 85 ls (.ref k :: st) h = if kd k = 8 then ex 103 88 ls (vl h k 20 :: st) h else none := x_getf hc_103 dX8_car_85 rfl fr_8_47
theorem x_103_88 {ls st : List Value} {h : Hp}  : ex 103 88 ls (st) h = gI (ldI ls 4) 103 90 ls st h := x_iload hc_103 dX8_car_88 rfl
theorem x_103_90 {ls st : List Value} {h : Hp}  : ex 103 90 ls (st) h = gI (ldI ls 1) 103 91 ls st h := x_iload_n hc_103 dX8_car_90 rfl rfl
theorem x_103_91 {ls st : List Value} {h : Hp} {k : Nat} {x u : Int32} : ex 103 91 ls (.int u :: .int x :: .ref k :: st) h = if kd k = 9 ∧ x.toNatClampNeg < ln k ∧ 0 ≤ x then ex 103 92 ls st (hu h k x.toNatClampNeg u) else none := x_iast hc_103 dX8_car_91 rfl
theorem x_103_92 {ls st : List Value} {h : Hp}  : ex 103 92 ls (st) h = gA (ldA ls 0) 103 93 ls st h := x_aload_n hc_103 dX8_car_92 rfl rfl
theorem x_103_93 {ls st : List Value} {h : Hp} {k : Nat} : ex 103 93 ls (.ref k :: st) h = if kd k = 8 then ex 103 96 ls (vl h k 23 :: st) h else none := x_getf hc_103 dX8_car_93 rfl fr_8_56
theorem x_103_96 {ls st : List Value} {h : Hp}  : ex 103 96 ls (st) h = gI (ldI ls 4) 103 98 ls st h := x_iload hc_103 dX8_car_96 rfl
theorem x_103_98 {ls st : List Value} {h : Hp}  : ex 103 98 ls (st) h = ex 103 99 ls (.int (-1) :: st) h := x_iconst hc_103 dX8_car_98 rfl (by decide)
theorem x_103_99 {ls st : List Value} {h : Hp} {k : Nat} {x u : Int32} : ex 103 99 ls (.int u :: .int x :: .ref k :: st) h = if kd k = 9 ∧ x.toNatClampNeg < ln k ∧ 0 ≤ x then ex 103 100 ls st (hu h k x.toNatClampNeg u) else none := x_iast hc_103 dX8_car_99 rfl
theorem x_103_100 {ls st : List Value} {h : Hp}  : ex 103 100 ls (st) h = ex 103 101 ls (.int (0) :: st) h := x_iconst hc_103 dX8_car_100 rfl (by decide)
theorem x_103_101 {ls st : List Value} {h : Hp} {x : Int32} : ex 103 101 ls (.int x :: st) h = ex 103 103 (ls.set 5 (.int x)) st h := x_istore hc_103 dX8_car_101 rfl (by decide)
theorem x_103_103 {ls st : List Value} {h : Hp}  : ex 103 103 ls (st) h = gI (ldI ls 5) 103 105 ls st h := x_iload hc_103 dX8_car_103 rfl
theorem x_103_105 {ls st : List Value} {h : Hp}  : ex 103 105 ls (st) h = ex 103 106 ls (.int (4) :: st) h := x_iconst hc_103 dX8_car_105 rfl (by decide)
theorem x_103_106 {ls st : List Value} {h : Hp} {x z : Int32} : ex 103 106 ls (.int z :: .int x :: st) h = if x < z then ex 103 109 ls st h else ex 103 141 ls st h := x_icmp_ge hc_103 dX8_car_106 rfl (by decide)
theorem x_103_109 {ls st : List Value} {h : Hp}  : ex 103 109 ls (st) h = gA (ldA ls 0) 103 110 ls st h := x_aload_n hc_103 dX8_car_109 rfl rfl
theorem x_103_110 {ls st : List Value} {h : Hp} {k : Nat} : ex 103 110 ls (.ref k :: st) h = if kd k = 8 then ex 103 113 ls (vl h k 30 :: st) h else none := x_getf hc_103 dX8_car_110 rfl fr_8_78
theorem x_103_113 {ls st : List Value} {h : Hp}  : ex 103 113 ls (st) h = ex 103 114 ls (.int (4) :: st) h := x_iconst hc_103 dX8_car_113 rfl (by decide)
theorem x_103_114 {ls st : List Value} {h : Hp}  : ex 103 114 ls (st) h = gI (ldI ls 4) 103 116 ls st h := x_iload hc_103 dX8_car_114 rfl
theorem x_103_116 {ls st : List Value} {h : Hp} {a b : Int32} : ex 103 116 ls (.int b :: .int a :: st) h = ex 103 117 ls (.int (a * b) :: st) h := x_imul hc_103 dX8_car_116 rfl
theorem x_103_117 {ls st : List Value} {h : Hp}  : ex 103 117 ls (st) h = gI (ldI ls 5) 103 119 ls st h := x_iload hc_103 dX8_car_117 rfl
theorem x_103_119 {ls st : List Value} {h : Hp} {a b : Int32} : ex 103 119 ls (.int b :: .int a :: st) h = ex 103 120 ls (.int (a + b) :: st) h := x_iadd hc_103 dX8_car_119 rfl
theorem x_103_120 {ls st : List Value} {h : Hp}  : ex 103 120 ls (st) h = gI (ldI ls 3) 103 121 ls st h := x_iload_n hc_103 dX8_car_120 rfl rfl
theorem x_103_121 {ls st : List Value} {h : Hp} {k : Nat} {x u : Int32} : ex 103 121 ls (.int u :: .int x :: .ref k :: st) h = if kd k = 9 ∧ x.toNatClampNeg < ln k ∧ 0 ≤ x then ex 103 122 ls st (hu h k x.toNatClampNeg u) else none := x_iast hc_103 dX8_car_121 rfl
theorem x_103_122 {ls st : List Value} {h : Hp}  : ex 103 122 ls (st) h = gA (ldA ls 0) 103 123 ls st h := x_aload_n hc_103 dX8_car_122 rfl rfl
theorem x_103_123 {ls st : List Value} {h : Hp} {k : Nat} : ex 103 123 ls (.ref k :: st) h = if kd k = 8 then ex 103 126 ls (vl h k 31 :: st) h else none := x_getf hc_103 dX8_car_123 rfl fr_8_81
theorem x_103_126 {ls st : List Value} {h : Hp}  : ex 103 126 ls (st) h = ex 103 127 ls (.int (4) :: st) h := x_iconst hc_103 dX8_car_126 rfl (by decide)
theorem x_103_127 {ls st : List Value} {h : Hp}  : ex 103 127 ls (st) h = gI (ldI ls 4) 103 129 ls st h := x_iload hc_103 dX8_car_127 rfl
theorem x_103_129 {ls st : List Value} {h : Hp} {a b : Int32} : ex 103 129 ls (.int b :: .int a :: st) h = ex 103 130 ls (.int (a * b) :: st) h := x_imul hc_103 dX8_car_129 rfl
theorem x_103_130 {ls st : List Value} {h : Hp}  : ex 103 130 ls (st) h = gI (ldI ls 5) 103 132 ls st h := x_iload hc_103 dX8_car_130 rfl
theorem x_103_132 {ls st : List Value} {h : Hp} {a b : Int32} : ex 103 132 ls (.int b :: .int a :: st) h = ex 103 133 ls (.int (a + b) :: st) h := x_iadd hc_103 dX8_car_132 rfl
theorem x_103_133 {ls st : List Value} {h : Hp}  : ex 103 133 ls (st) h = ex 103 134 ls (.int (-1) :: st) h := x_iconst hc_103 dX8_car_133 rfl (by decide)
theorem x_103_134 {ls st : List Value} {h : Hp} {k : Nat} {x u : Int32} : ex 103 134 ls (.int u :: .int x :: .ref k :: st) h = if kd k = 9 ∧ x.toNatClampNeg < ln k ∧ 0 ≤ x then ex 103 135 ls st (hu h k x.toNatClampNeg u) else none := x_iast hc_103 dX8_car_134 rfl
theorem x_103_135 {ls st : List Value} {h : Hp}  : ex 103 135 ls (st) h = gN (ldI ls 5) 103 138 ls 5 (1) st h := x_iinc hc_103 dX8_car_135 rfl (by decide) (by decide)
theorem x_103_138 {ls st : List Value} {h : Hp}  : ex 103 138 ls (st) h = ex 103 103 ls st h := x_goto hc_103 dX8_car_138 (by decide)
theorem x_103_141 {ls st : List Value} {h : Hp}  : ex 103 141 ls (st) h = gI (ldI ls 4) 103 143 ls st h := x_iload hc_103 dX8_car_141 rfl
theorem x_103_143 {ls : List Value} {h : Hp} {v : Int32} : ex 103 143 ls [.int v] h = some (some (.int v), h) := x_iret hc_103 dX8_car_143 rfl
theorem x_104_0 {ls st : List Value} {h : Hp}  : ex 104 0 ls (st) h = gA (ldA ls 0) 104 1 ls st h := x_aload_n hc_104 dX8_load_0 rfl rfl
theorem x_104_1 {ls st : List Value} {h : Hp}  : ex 104 1 ls (st) h = gI (ldI ls 1) 104 2 ls st h := x_iload_n hc_104 dX8_load_1 rfl rfl
theorem x_104_2 {ls st : List Value} {h : Hp} {k : Nat} {a0 : Int32} : ex 104 2 ls (.int a0 :: .ref k :: st) h = if kd k = 8 ∧ st.length ≤ 4 then gC (ex 105 0 [.ref k, .int a0] [] h) 104 5 ls st else none := x_callV (as := [.int a0]) hc_104 dX8_load_2 rfl mr_8_168 rfl rfl rfl (by decide) (by decide)
theorem x_104_5 {ls st : List Value} {h : Hp} {x : Int32} : ex 104 5 ls (.int x :: st) h = if x = 0 then ex 104 20 ls st h else ex 104 8 ls st h := x_if_eq hc_104 dX8_load_5 rfl (by decide)
theorem x_104_8 {ls st : List Value} {h : Hp}  : ex 104 8 ls (st) h = gI (ldI ls 2) 104 9 ls st h := x_iload_n hc_104 dX8_load_8 rfl rfl
theorem x_104_9 {ls st : List Value} {h : Hp} {x : Int32} : ex 104 9 ls (.int x :: st) h = if x < 0 then ex 104 20 ls st h else ex 104 12 ls st h := x_if_lt hc_104 dX8_load_9 rfl (by decide)
theorem x_104_12 {ls st : List Value} {h : Hp}  : ex 104 12 ls (st) h = gI (ldI ls 2) 104 13 ls st h := x_iload_n hc_104 dX8_load_12 rfl rfl
theorem x_104_13 {ls st : List Value} {h : Hp}  : ex 104 13 ls (st) h = ex 104 15 ls (.int (10) :: st) h := x_bipush hc_104 dX8_load_13 rfl (by decide)
theorem x_104_15 {ls st : List Value} {h : Hp} {a b : Int32} : ex 104 15 ls (.int b :: .int a :: st) h = if b = 0 then none else ex 104 16 ls (.int (a % b) :: st) h := x_irem hc_104 dX8_load_15 rfl
theorem x_104_16 {ls st : List Value} {h : Hp}  : ex 104 16 ls (st) h = ex 104 17 ls (.int (3) :: st) h := x_iconst hc_104 dX8_load_16 rfl (by decide)
theorem x_104_17 {ls st : List Value} {h : Hp} {x z : Int32} : ex 104 17 ls (.int z :: .int x :: st) h = if z < x then ex 104 20 ls st h else ex 104 27 ls st h := x_icmp_le hc_104 dX8_load_17 rfl (by decide)
theorem x_104_20 {ls st : List Value} {h : Hp}  : ex 104 20 ls (st) h = gA (ldA ls 0) 104 21 ls st h := x_aload_n hc_104 dX8_load_20 rfl rfl
theorem x_104_21 {ls st : List Value} {h : Hp}  : ex 104 21 ls (st) h = ex 104 23 ls (.int (-3) :: st) h := x_bipush hc_104 dX8_load_21 rfl (by decide)
theorem x_104_23 {ls st : List Value} {h : Hp} {k : Nat} {a0 : Int32} : ex 104 23 ls (.int a0 :: .ref k :: st) h = if kd k = 8 ∧ st.length ≤ 4 then gC (ex 92 0 [.ref k, .int a0] [] h) 104 26 ls st else none := x_callV (as := [.int a0]) hc_104 dX8_load_23 rfl mr_8_148 rfl rfl rfl (by decide) (by decide)
theorem x_104_26 {ls : List Value} {h : Hp} {v : Int32} : ex 104 26 ls [.int v] h = some (some (.int v), h) := x_iret hc_104 dX8_load_26 rfl
theorem x_104_27 {ls st : List Value} {h : Hp}  : ex 104 27 ls (st) h = gI (ldI ls 2) 104 28 ls st h := x_iload_n hc_104 dX8_load_27 rfl rfl
theorem x_104_28 {ls st : List Value} {h : Hp}  : ex 104 28 ls (st) h = ex 104 30 ls (.int (10) :: st) h := x_bipush hc_104 dX8_load_28 rfl (by decide)
theorem x_104_30 {ls st : List Value} {h : Hp} {a b : Int32} : ex 104 30 ls (.int b :: .int a :: st) h = if b = 0 then none else ex 104 31 ls (.int (a / b) :: st) h := x_idiv hc_104 dX8_load_30 rfl
theorem x_104_31 {ls st : List Value} {h : Hp} {x : Int32} : ex 104 31 ls (.int x :: st) h = ex 104 33 (ls.set 7 (.int x)) st h := x_istore hc_104 dX8_load_31 rfl (by decide)
theorem x_104_33 {ls st : List Value} {h : Hp}  : ex 104 33 ls (st) h = ex 104 34 ls (.int (4) :: st) h := x_iconst hc_104 dX8_load_33 rfl (by decide)
theorem x_104_34 {ls st : List Value} {h : Hp}  : ex 104 34 ls (st) h = gI (ldI ls 1) 104 35 ls st h := x_iload_n hc_104 dX8_load_34 rfl rfl
theorem x_104_35 {ls st : List Value} {h : Hp} {a b : Int32} : ex 104 35 ls (.int b :: .int a :: st) h = ex 104 36 ls (.int (a * b) :: st) h := x_imul hc_104 dX8_load_35 rfl
theorem x_104_36 {ls st : List Value} {h : Hp}  : ex 104 36 ls (st) h = gI (ldI ls 2) 104 37 ls st h := x_iload_n hc_104 dX8_load_36 rfl rfl
theorem x_104_37 {ls st : List Value} {h : Hp}  : ex 104 37 ls (st) h = ex 104 39 ls (.int (10) :: st) h := x_bipush hc_104 dX8_load_37 rfl (by decide)
theorem x_104_39 {ls st : List Value} {h : Hp} {a b : Int32} : ex 104 39 ls (.int b :: .int a :: st) h = if b = 0 then none else ex 104 40 ls (.int (a % b) :: st) h := x_irem hc_104 dX8_load_39 rfl
theorem x_104_40 {ls st : List Value} {h : Hp} {a b : Int32} : ex 104 40 ls (.int b :: .int a :: st) h = ex 104 41 ls (.int (a + b) :: st) h := x_iadd hc_104 dX8_load_40 rfl
theorem x_104_41 {ls st : List Value} {h : Hp} {x : Int32} : ex 104 41 ls (.int x :: st) h = ex 104 43 (ls.set 8 (.int x)) st h := x_istore hc_104 dX8_load_41 rfl (by decide)
theorem x_104_43 {ls st : List Value} {h : Hp}  : ex 104 43 ls (st) h = gI (ldI ls 7) 104 45 ls st h := x_iload hc_104 dX8_load_43 rfl
theorem x_104_45 {ls st : List Value} {h : Hp}  : ex 104 45 ls (st) h = ex 104 46 ls (.int (4) :: st) h := x_iconst hc_104 dX8_load_45 rfl (by decide)
theorem x_104_46 {ls st : List Value} {h : Hp} {x z : Int32} : ex 104 46 ls (.int z :: .int x :: st) h = if z < x then ex 104 110 ls st h else ex 104 49 ls st h := x_icmp_gt hc_104 dX8_load_46 rfl (by decide)
theorem x_104_49 {ls st : List Value} {h : Hp}  : ex 104 49 ls (st) h = gI (ldI ls 3) 104 50 ls st h := x_iload_n hc_104 dX8_load_49 rfl rfl
theorem x_104_50 {ls st : List Value} {h : Hp}  : ex 104 50 ls (st) h = ex 104 51 ls (.int (1) :: st) h := x_iconst hc_104 dX8_load_50 rfl (by decide)
theorem x_104_51 {ls st : List Value} {h : Hp} {x z : Int32} : ex 104 51 ls (.int z :: .int x :: st) h = if x < z then ex 104 110 ls st h else ex 104 54 ls st h := x_icmp_lt hc_104 dX8_load_51 rfl (by decide)
theorem x_104_54 {ls st : List Value} {h : Hp}  : ex 104 54 ls (st) h = gI (ldI ls 3) 104 55 ls st h := x_iload_n hc_104 dX8_load_54 rfl rfl
theorem x_104_55 {ls st : List Value} {h : Hp}  : ex 104 55 ls (st) h = ex 104 58 ls (.int (500) :: st) h := x_sipush hc_104 dX8_load_55 rfl (by decide)
theorem x_104_58 {ls st : List Value} {h : Hp} {x z : Int32} : ex 104 58 ls (.int z :: .int x :: st) h = if z < x then ex 104 110 ls st h else ex 104 61 ls st h := x_icmp_gt hc_104 dX8_load_58 rfl (by decide)
theorem x_104_61 {ls st : List Value} {h : Hp}  : ex 104 61 ls (st) h = gI (ldI ls 4) 104 63 ls st h := x_iload hc_104 dX8_load_61 rfl
theorem x_104_63 {ls st : List Value} {h : Hp}  : ex 104 63 ls (st) h = ex 104 64 ls (.int (1) :: st) h := x_iconst hc_104 dX8_load_63 rfl (by decide)
theorem x_104_64 {ls st : List Value} {h : Hp} {x z : Int32} : ex 104 64 ls (.int z :: .int x :: st) h = if x < z then ex 104 110 ls st h else ex 104 67 ls st h := x_icmp_lt hc_104 dX8_load_64 rfl (by decide)
theorem x_104_67 {ls st : List Value} {h : Hp}  : ex 104 67 ls (st) h = gI (ldI ls 4) 104 69 ls st h := x_iload hc_104 dX8_load_67 rfl
theorem x_104_69 {ls st : List Value} {h : Hp}  : ex 104 69 ls (st) h = ex 104 72 ls (.int (10000) :: st) h := x_sipush hc_104 dX8_load_69 rfl (by decide)
theorem x_104_72 {ls st : List Value} {h : Hp} {x z : Int32} : ex 104 72 ls (.int z :: .int x :: st) h = if z < x then ex 104 110 ls st h else ex 104 75 ls st h := x_icmp_gt hc_104 dX8_load_72 rfl (by decide)
theorem x_104_75 {ls st : List Value} {h : Hp}  : ex 104 75 ls (st) h = gI (ldI ls 7) 104 77 ls st h := x_iload hc_104 dX8_load_75 rfl
theorem x_104_77 {ls st : List Value} {h : Hp}  : ex 104 77 ls (st) h = ex 104 78 ls (.int (2) :: st) h := x_iconst hc_104 dX8_load_77 rfl (by decide)
theorem x_104_78 {ls st : List Value} {h : Hp} {x z : Int32} : ex 104 78 ls (.int z :: .int x :: st) h = if x = z then ex 104 81 ls st h else ex 104 94 ls st h := x_icmp_ne hc_104 dX8_load_78 rfl (by decide)
theorem x_104_81 {ls st : List Value} {h : Hp}  : ex 104 81 ls (st) h = gI (ldI ls 5) 104 83 ls st h := x_iload hc_104 dX8_load_81 rfl
theorem x_104_83 {ls st : List Value} {h : Hp}  : ex 104 83 ls (st) h = ex 104 84 ls (.int (1) :: st) h := x_iconst hc_104 dX8_load_83 rfl (by decide)
theorem x_104_84 {ls st : List Value} {h : Hp} {x z : Int32} : ex 104 84 ls (.int z :: .int x :: st) h = if x < z then ex 104 110 ls st h else ex 104 87 ls st h := x_icmp_lt hc_104 dX8_load_84 rfl (by decide)
theorem x_104_87 {ls st : List Value} {h : Hp}  : ex 104 87 ls (st) h = gI (ldI ls 5) 104 89 ls st h := x_iload hc_104 dX8_load_87 rfl
theorem x_104_89 {ls st : List Value} {h : Hp}  : ex 104 89 ls (st) h = ex 104 91 ls (.int (99) :: st) h := x_bipush hc_104 dX8_load_89 rfl (by decide)
theorem x_104_91 {ls st : List Value} {h : Hp} {x z : Int32} : ex 104 91 ls (.int z :: .int x :: st) h = if z < x then ex 104 110 ls st h else ex 104 94 ls st h := x_icmp_gt hc_104 dX8_load_91 rfl (by decide)
theorem x_104_94 {ls st : List Value} {h : Hp}  : ex 104 94 ls (st) h = gI (ldI ls 6) 104 96 ls st h := x_iload hc_104 dX8_load_94 rfl
theorem x_104_96 {ls st : List Value} {h : Hp}  : ex 104 96 ls (st) h = ex 104 99 ls (.int (-400) :: st) h := x_sipush hc_104 dX8_load_96 rfl (by decide)
theorem x_104_99 {ls st : List Value} {h : Hp} {x z : Int32} : ex 104 99 ls (.int z :: .int x :: st) h = if x < z then ex 104 110 ls st h else ex 104 102 ls st h := x_icmp_lt hc_104 dX8_load_99 rfl (by decide)
theorem x_104_102 {ls st : List Value} {h : Hp}  : ex 104 102 ls (st) h = gI (ldI ls 6) 104 104 ls st h := x_iload hc_104 dX8_load_102 rfl
theorem x_104_104 {ls st : List Value} {h : Hp}  : ex 104 104 ls (st) h = ex 104 107 ls (.int (500) :: st) h := x_sipush hc_104 dX8_load_104 rfl (by decide)
theorem x_104_107 {ls st : List Value} {h : Hp} {x z : Int32} : ex 104 107 ls (.int z :: .int x :: st) h = if z < x then ex 104 110 ls st h else ex 104 117 ls st h := x_icmp_le hc_104 dX8_load_107 rfl (by decide)
theorem x_104_110 {ls st : List Value} {h : Hp}  : ex 104 110 ls (st) h = gA (ldA ls 0) 104 111 ls st h := x_aload_n hc_104 dX8_load_110 rfl rfl
theorem x_104_111 {ls st : List Value} {h : Hp}  : ex 104 111 ls (st) h = ex 104 113 ls (.int (-7) :: st) h := x_bipush hc_104 dX8_load_111 rfl (by decide)
theorem x_104_113 {ls st : List Value} {h : Hp} {k : Nat} {a0 : Int32} : ex 104 113 ls (.int a0 :: .ref k :: st) h = if kd k = 8 ∧ st.length ≤ 4 then gC (ex 92 0 [.ref k, .int a0] [] h) 104 116 ls st else none := x_callV (as := [.int a0]) hc_104 dX8_load_113 rfl mr_8_148 rfl rfl rfl (by decide) (by decide)
theorem x_104_116 {ls : List Value} {h : Hp} {v : Int32} : ex 104 116 ls [.int v] h = some (some (.int v), h) := x_iret hc_104 dX8_load_116 rfl
theorem x_104_117 {ls st : List Value} {h : Hp}  : ex 104 117 ls (st) h = gA (ldA ls 0) 104 118 ls st h := x_aload_n hc_104 dX8_load_117 rfl rfl
theorem x_104_118 {ls st : List Value} {h : Hp} {k : Nat} : ex 104 118 ls (.ref k :: st) h = if kd k = 8 then ex 104 121 ls (vl h k 23 :: st) h else none := x_getf hc_104 dX8_load_118 rfl fr_8_56
theorem x_104_121 {ls st : List Value} {h : Hp}  : ex 104 121 ls (st) h = gI (ldI ls 1) 104 122 ls st h := x_iload_n hc_104 dX8_load_121 rfl rfl
theorem x_104_122 {ls st : List Value} {h : Hp} {k : Nat} {x : Int32} : ex 104 122 ls (.int x :: .ref k :: st) h = if kd k = 9 ∧ x.toNatClampNeg < ln k ∧ 0 ≤ x then ex 104 123 ls (.int (h k x.toNatClampNeg) :: st) h else none := x_iald hc_104 dX8_load_122 rfl
theorem x_104_123 {ls st : List Value} {h : Hp}  : ex 104 123 ls (st) h = ex 104 124 ls (.int (-1) :: st) h := x_iconst hc_104 dX8_load_123 rfl (by decide)
theorem x_104_124 {ls st : List Value} {h : Hp} {x z : Int32} : ex 104 124 ls (.int z :: .int x :: st) h = if x = z then ex 104 127 ls st h else ex 104 138 ls st h := x_icmp_ne hc_104 dX8_load_124 rfl (by decide)
theorem x_104_127 {ls st : List Value} {h : Hp}  : ex 104 127 ls (st) h = gA (ldA ls 0) 104 128 ls st h := x_aload_n hc_104 dX8_load_127 rfl rfl
theorem x_104_128 {ls st : List Value} {h : Hp} {k : Nat} : ex 104 128 ls (.ref k :: st) h = if kd k = 8 then ex 104 131 ls (vl h k 31 :: st) h else none := x_getf hc_104 dX8_load_128 rfl fr_8_81
theorem x_104_131 {ls st : List Value} {h : Hp}  : ex 104 131 ls (st) h = gI (ldI ls 8) 104 133 ls st h := x_iload hc_104 dX8_load_131 rfl
theorem x_104_133 {ls st : List Value} {h : Hp} {k : Nat} {x : Int32} : ex 104 133 ls (.int x :: .ref k :: st) h = if kd k = 9 ∧ x.toNatClampNeg < ln k ∧ 0 ≤ x then ex 104 134 ls (.int (h k x.toNatClampNeg) :: st) h else none := x_iald hc_104 dX8_load_133 rfl
theorem x_104_134 {ls st : List Value} {h : Hp}  : ex 104 134 ls (st) h = ex 104 135 ls (.int (-1) :: st) h := x_iconst hc_104 dX8_load_134 rfl (by decide)
theorem x_104_135 {ls st : List Value} {h : Hp} {x z : Int32} : ex 104 135 ls (.int z :: .int x :: st) h = if x = z then ex 104 145 ls st h else ex 104 138 ls st h := x_icmp_eq hc_104 dX8_load_135 rfl (by decide)
theorem x_104_138 {ls st : List Value} {h : Hp}  : ex 104 138 ls (st) h = gA (ldA ls 0) 104 139 ls st h := x_aload_n hc_104 dX8_load_138 rfl rfl
theorem x_104_139 {ls st : List Value} {h : Hp}  : ex 104 139 ls (st) h = ex 104 141 ls (.int (-7) :: st) h := x_bipush hc_104 dX8_load_139 rfl (by decide)
theorem x_104_141 {ls st : List Value} {h : Hp} {k : Nat} {a0 : Int32} : ex 104 141 ls (.int a0 :: .ref k :: st) h = if kd k = 8 ∧ st.length ≤ 4 then gC (ex 92 0 [.ref k, .int a0] [] h) 104 144 ls st else none := x_callV (as := [.int a0]) hc_104 dX8_load_141 rfl mr_8_148 rfl rfl rfl (by decide) (by decide)
theorem x_104_144 {ls : List Value} {h : Hp} {v : Int32} : ex 104 144 ls [.int v] h = some (some (.int v), h) := x_iret hc_104 dX8_load_144 rfl
theorem x_104_145 {ls st : List Value} {h : Hp}  : ex 104 145 ls (st) h = gA (ldA ls 0) 104 146 ls st h := x_aload_n hc_104 dX8_load_145 rfl rfl
theorem x_104_146 {ls st : List Value} {h : Hp} {k : Nat} : ex 104 146 ls (.ref k :: st) h = if kd k = 8 then ex 104 149 ls (vl h k 31 :: st) h else none := x_getf hc_104 dX8_load_146 rfl fr_8_81
theorem x_104_149 {ls st : List Value} {h : Hp}  : ex 104 149 ls (st) h = gI (ldI ls 8) 104 151 ls st h := x_iload hc_104 dX8_load_149 rfl
theorem x_104_151 {ls st : List Value} {h : Hp}  : ex 104 151 ls (st) h = gI (ldI ls 7) 104 153 ls st h := x_iload hc_104 dX8_load_151 rfl
theorem x_104_153 {ls st : List Value} {h : Hp} {k : Nat} {x u : Int32} : ex 104 153 ls (.int u :: .int x :: .ref k :: st) h = if kd k = 9 ∧ x.toNatClampNeg < ln k ∧ 0 ≤ x then ex 104 154 ls st (hu h k x.toNatClampNeg u) else none := x_iast hc_104 dX8_load_153 rfl
theorem x_104_154 {ls st : List Value} {h : Hp}  : ex 104 154 ls (st) h = gA (ldA ls 0) 104 155 ls st h := x_aload_n hc_104 dX8_load_154 rfl rfl
theorem x_104_155 {ls st : List Value} {h : Hp} {k : Nat} : ex 104 155 ls (.ref k :: st) h = if kd k = 8 then ex 104 158 ls (vl h k 32 :: st) h else none := x_getf hc_104 dX8_load_155 rfl fr_8_84
theorem x_104_158 {ls st : List Value} {h : Hp}  : ex 104 158 ls (st) h = gI (ldI ls 8) 104 160 ls st h := x_iload hc_104 dX8_load_158 rfl
theorem x_104_160 {ls st : List Value} {h : Hp}  : ex 104 160 ls (st) h = gI (ldI ls 3) 104 161 ls st h := x_iload_n hc_104 dX8_load_160 rfl rfl
theorem x_104_161 {ls st : List Value} {h : Hp} {k : Nat} {x u : Int32} : ex 104 161 ls (.int u :: .int x :: .ref k :: st) h = if kd k = 9 ∧ x.toNatClampNeg < ln k ∧ 0 ≤ x then ex 104 162 ls st (hu h k x.toNatClampNeg u) else none := x_iast hc_104 dX8_load_161 rfl
theorem x_104_162 {ls st : List Value} {h : Hp}  : ex 104 162 ls (st) h = gA (ldA ls 0) 104 163 ls st h := x_aload_n hc_104 dX8_load_162 rfl rfl
theorem x_104_163 {ls st : List Value} {h : Hp} {k : Nat} : ex 104 163 ls (.ref k :: st) h = if kd k = 8 then ex 104 166 ls (vl h k 33 :: st) h else none := x_getf hc_104 dX8_load_163 rfl fr_8_87
theorem x_104_166 {ls st : List Value} {h : Hp}  : ex 104 166 ls (st) h = gI (ldI ls 8) 104 168 ls st h := x_iload hc_104 dX8_load_166 rfl
theorem x_104_168 {ls st : List Value} {h : Hp}  : ex 104 168 ls (st) h = gI (ldI ls 4) 104 170 ls st h := x_iload hc_104 dX8_load_168 rfl
theorem x_104_170 {ls st : List Value} {h : Hp} {k : Nat} {x u : Int32} : ex 104 170 ls (.int u :: .int x :: .ref k :: st) h = if kd k = 9 ∧ x.toNatClampNeg < ln k ∧ 0 ≤ x then ex 104 171 ls st (hu h k x.toNatClampNeg u) else none := x_iast hc_104 dX8_load_170 rfl
theorem x_104_171 {ls st : List Value} {h : Hp}  : ex 104 171 ls (st) h = gA (ldA ls 0) 104 172 ls st h := x_aload_n hc_104 dX8_load_171 rfl rfl
theorem x_104_172 {ls st : List Value} {h : Hp} {k : Nat} : ex 104 172 ls (.ref k :: st) h = if kd k = 8 then ex 104 175 ls (vl h k 34 :: st) h else none := x_getf hc_104 dX8_load_172 rfl fr_8_90
theorem x_104_175 {ls st : List Value} {h : Hp}  : ex 104 175 ls (st) h = gI (ldI ls 8) 104 177 ls st h := x_iload hc_104 dX8_load_175 rfl
theorem x_104_177 {ls st : List Value} {h : Hp}  : ex 104 177 ls (st) h = gI (ldI ls 5) 104 179 ls st h := x_iload hc_104 dX8_load_177 rfl
theorem x_104_179 {ls st : List Value} {h : Hp} {k : Nat} {x u : Int32} : ex 104 179 ls (.int u :: .int x :: .ref k :: st) h = if kd k = 9 ∧ x.toNatClampNeg < ln k ∧ 0 ≤ x then ex 104 180 ls st (hu h k x.toNatClampNeg u) else none := x_iast hc_104 dX8_load_179 rfl
theorem x_104_180 {ls st : List Value} {h : Hp}  : ex 104 180 ls (st) h = gA (ldA ls 0) 104 181 ls st h := x_aload_n hc_104 dX8_load_180 rfl rfl
theorem x_104_181 {ls st : List Value} {h : Hp} {k : Nat} : ex 104 181 ls (.ref k :: st) h = if kd k = 8 then ex 104 184 ls (vl h k 30 :: st) h else none := x_getf hc_104 dX8_load_181 rfl fr_8_78
theorem x_104_184 {ls st : List Value} {h : Hp}  : ex 104 184 ls (st) h = gI (ldI ls 8) 104 186 ls st h := x_iload hc_104 dX8_load_184 rfl
theorem x_104_186 {ls st : List Value} {h : Hp}  : ex 104 186 ls (st) h = gI (ldI ls 6) 104 188 ls st h := x_iload hc_104 dX8_load_186 rfl
theorem x_104_188 {ls st : List Value} {h : Hp} {k : Nat} {x u : Int32} : ex 104 188 ls (.int u :: .int x :: .ref k :: st) h = if kd k = 9 ∧ x.toNatClampNeg < ln k ∧ 0 ≤ x then ex 104 189 ls st (hu h k x.toNatClampNeg u) else none := x_iast hc_104 dX8_load_188 rfl
theorem x_104_189 {ls st : List Value} {h : Hp}  : ex 104 189 ls (st) h = gA (ldA ls 0) 104 190 ls st h := x_aload_n hc_104 dX8_load_189 rfl rfl
theorem x_104_190 {ls st : List Value} {h : Hp} {k : Nat} : ex 104 190 ls (.ref k :: st) h = if kd k = 8 then ex 104 193 ls (vl h k 35 :: st) h else none := x_getf hc_104 dX8_load_190 rfl fr_8_93
theorem x_104_193 {ls st : List Value} {h : Hp}  : ex 104 193 ls (st) h = gI (ldI ls 8) 104 195 ls st h := x_iload hc_104 dX8_load_193 rfl
theorem x_104_195 {ls st : List Value} {h : Hp}  : ex 104 195 ls (st) h = ex 104 196 ls (.int (0) :: st) h := x_iconst hc_104 dX8_load_195 rfl (by decide)
theorem x_104_196 {ls st : List Value} {h : Hp} {k : Nat} {x u : Int32} : ex 104 196 ls (.int u :: .int x :: .ref k :: st) h = if kd k = 9 ∧ x.toNatClampNeg < ln k ∧ 0 ≤ x then ex 104 197 ls st (hu h k x.toNatClampNeg u) else none := x_iast hc_104 dX8_load_196 rfl
theorem x_104_197 {ls st : List Value} {h : Hp}  : ex 104 197 ls (st) h = gI (ldI ls 3) 104 198 ls st h := x_iload_n hc_104 dX8_load_197 rfl rfl
theorem x_104_198 {ls : List Value} {h : Hp} {v : Int32} : ex 104 198 ls [.int v] h = some (some (.int v), h) := x_iret hc_104 dX8_load_198 rfl
theorem x_105_0 {ls st : List Value} {h : Hp}  : ex 105 0 ls (st) h = gI (ldI ls 1) 105 1 ls st h := x_iload_n hc_105 dX8_isCar_0 rfl rfl
theorem x_105_1 {ls st : List Value} {h : Hp} {x : Int32} : ex 105 1 ls (.int x :: st) h = if x < 0 then ex 105 16 ls st h else ex 105 4 ls st h := x_if_lt hc_105 dX8_isCar_1 rfl (by decide)
theorem x_105_4 {ls st : List Value} {h : Hp}  : ex 105 4 ls (st) h = gI (ldI ls 1) 105 5 ls st h := x_iload_n hc_105 dX8_isCar_4 rfl rfl
theorem x_105_5 {ls st : List Value} {h : Hp}  : ex 105 5 ls (st) h = gA (ldA ls 0) 105 6 ls st h := x_aload_n hc_105 dX8_isCar_5 rfl rfl
theorem x_105_6 {ls st : List Value} {h : Hp} {k : Nat} : ex 105 6 ls (.ref k :: st) h = if kd k = 8 then ex 105 9 ls (vl h k 2 :: st) h else none := x_getf hc_105 dX8_isCar_6 rfl fr_8_145
theorem x_105_9 {ls st : List Value} {h : Hp} {x z : Int32} : ex 105 9 ls (.int z :: .int x :: st) h = if x < z then ex 105 12 ls st h else ex 105 16 ls st h := x_icmp_ge hc_105 dX8_isCar_9 rfl (by decide)
theorem x_105_12 {ls st : List Value} {h : Hp}  : ex 105 12 ls (st) h = ex 105 13 ls (.int (1) :: st) h := x_iconst hc_105 dX8_isCar_12 rfl (by decide)
theorem x_105_13 {ls st : List Value} {h : Hp}  : ex 105 13 ls (st) h = ex 105 17 ls st h := x_goto hc_105 dX8_isCar_13 (by decide)
theorem x_105_16 {ls st : List Value} {h : Hp}  : ex 105 16 ls (st) h = ex 105 17 ls (.int (0) :: st) h := x_iconst hc_105 dX8_isCar_16 rfl (by decide)
theorem x_105_17 {ls : List Value} {h : Hp} {v : Int32} : ex 105 17 ls [.int v] h = if v = 0 ∨ v = 1 then some (some (.int v), h) else none := x_zret hc_105 dX8_isCar_17 rfl
theorem x_106_0 {ls st : List Value} {h : Hp}  : ex 106 0 ls (st) h = gA (ldA ls 0) 106 1 ls st h := x_aload_n hc_106 dX8_tier_0 rfl rfl
theorem x_106_1 {ls st : List Value} {h : Hp}  : ex 106 1 ls (st) h = gI (ldI ls 1) 106 2 ls st h := x_iload_n hc_106 dX8_tier_1 rfl rfl
theorem x_106_2 {ls st : List Value} {h : Hp} {k : Nat} {a0 : Int32} : ex 106 2 ls (.int a0 :: .ref k :: st) h = if kd k = 8 ∧ st.length ≤ 4 then gC (ex 105 0 [.ref k, .int a0] [] h) 106 5 ls st else none := x_callV (as := [.int a0]) hc_106 dX8_tier_2 rfl mr_8_168 rfl rfl rfl (by decide) (by decide)
theorem x_106_5 {ls st : List Value} {h : Hp} {x : Int32} : ex 106 5 ls (.int x :: st) h = if x = 0 then ex 106 17 ls st h else ex 106 8 ls st h := x_if_eq hc_106 dX8_tier_5 rfl (by decide)
theorem x_106_8 {ls st : List Value} {h : Hp}  : ex 106 8 ls (st) h = gI (ldI ls 2) 106 9 ls st h := x_iload_n hc_106 dX8_tier_8 rfl rfl
theorem x_106_9 {ls st : List Value} {h : Hp} {x : Int32} : ex 106 9 ls (.int x :: st) h = if x < 0 then ex 106 17 ls st h else ex 106 12 ls st h := x_if_lt hc_106 dX8_tier_9 rfl (by decide)
theorem x_106_12 {ls st : List Value} {h : Hp}  : ex 106 12 ls (st) h = gI (ldI ls 2) 106 13 ls st h := x_iload_n hc_106 dX8_tier_12 rfl rfl
theorem x_106_13 {ls st : List Value} {h : Hp}  : ex 106 13 ls (st) h = ex 106 14 ls (.int (3) :: st) h := x_iconst hc_106 dX8_tier_13 rfl (by decide)
theorem x_106_14 {ls st : List Value} {h : Hp} {x z : Int32} : ex 106 14 ls (.int z :: .int x :: st) h = if z < x then ex 106 17 ls st h else ex 106 24 ls st h := x_icmp_le hc_106 dX8_tier_14 rfl (by decide)
theorem x_106_17 {ls st : List Value} {h : Hp}  : ex 106 17 ls (st) h = gA (ldA ls 0) 106 18 ls st h := x_aload_n hc_106 dX8_tier_17 rfl rfl
theorem x_106_18 {ls st : List Value} {h : Hp}  : ex 106 18 ls (st) h = ex 106 20 ls (.int (-3) :: st) h := x_bipush hc_106 dX8_tier_18 rfl (by decide)
theorem x_106_20 {ls st : List Value} {h : Hp} {k : Nat} {a0 : Int32} : ex 106 20 ls (.int a0 :: .ref k :: st) h = if kd k = 8 ∧ st.length ≤ 4 then gC (ex 98 0 [.ref k, .int a0] [] h) 106 23 ls st else none := x_callV (as := [.int a0]) hc_106 dX8_tier_20 rfl mr_8_157 rfl rfl rfl (by decide) (by decide)
theorem x_106_23 {ls : List Value} {h : Hp} {v : Int32} : ex 106 23 ls [.int v] h = some (some (.int v), h) := x_iret hc_106 dX8_tier_23 rfl
theorem x_106_24 {ls st : List Value} {h : Hp}  : ex 106 24 ls (st) h = ex 106 25 ls (.int (4) :: st) h := x_iconst hc_106 dX8_tier_24 rfl (by decide)
theorem x_106_25 {ls st : List Value} {h : Hp}  : ex 106 25 ls (st) h = gI (ldI ls 1) 106 26 ls st h := x_iload_n hc_106 dX8_tier_25 rfl rfl
theorem x_106_26 {ls st : List Value} {h : Hp} {a b : Int32} : ex 106 26 ls (.int b :: .int a :: st) h = ex 106 27 ls (.int (a * b) :: st) h := x_imul hc_106 dX8_tier_26 rfl
theorem x_106_27 {ls st : List Value} {h : Hp}  : ex 106 27 ls (st) h = gI (ldI ls 2) 106 28 ls st h := x_iload_n hc_106 dX8_tier_27 rfl rfl
theorem x_106_28 {ls st : List Value} {h : Hp} {a b : Int32} : ex 106 28 ls (.int b :: .int a :: st) h = ex 106 29 ls (.int (a + b) :: st) h := x_iadd hc_106 dX8_tier_28 rfl
theorem x_106_29 {ls st : List Value} {h : Hp} {x : Int32} : ex 106 29 ls (.int x :: st) h = ex 106 31 (ls.set 4 (.int x)) st h := x_istore hc_106 dX8_tier_29 rfl (by decide)
theorem x_106_31 {ls st : List Value} {h : Hp}  : ex 106 31 ls (st) h = gI (ldI ls 3) 106 32 ls st h := x_iload_n hc_106 dX8_tier_31 rfl rfl
theorem x_106_32 {ls st : List Value} {h : Hp} {x : Int32} : ex 106 32 ls (.int x :: st) h = if x = 0 then ex 106 68 ls st h else if x = 1 then ex 106 76 ls st h else if x = 2 then ex 106 84 ls st h else if x = 3 then ex 106 107 ls st h else if x = 4 then ex 106 130 ls st h else ex 106 153 ls st h := by
  rw [x_tbl hc_106 dX8_tier_32]
  by_cases h0 : x = 0
  · subst h0; rfl
  by_cases h1 : x = 1
  · subst h1; rfl
  by_cases h2 : x = 2
  · subst h2; rfl
  by_cases h3 : x = 3
  · subst h3; rfl
  by_cases h4 : x = 4
  · subst h4; rfl
  have hz : x.toInt < 0 ∨ 4 < x.toInt := by
    have e0 := lv_neT (a := 0) h0 (by decide)
    have e1 := lv_neT (a := 1) h1 (by decide)
    have e2 := lv_neT (a := 2) h2 (by decide)
    have e3 := lv_neT (a := 3) h3 (by decide)
    have e4 := lv_neT (a := 4) h4 (by decide)
    omega
  rw [if_pos hz, if_neg h0, if_neg h1, if_neg h2, if_neg h3, if_neg h4]
  rfl
theorem x_106_68 {ls st : List Value} {h : Hp}  : ex 106 68 ls (st) h = gA (ldA ls 0) 106 69 ls st h := x_aload_n hc_106 dX8_tier_68 rfl rfl
theorem x_106_69 {ls st : List Value} {h : Hp} {k : Nat} : ex 106 69 ls (.ref k :: st) h = if kd k = 8 then ex 106 72 ls (vl h k 30 :: st) h else none := x_getf hc_106 dX8_tier_69 rfl fr_8_78
theorem x_106_72 {ls st : List Value} {h : Hp}  : ex 106 72 ls (st) h = gI (ldI ls 4) 106 74 ls st h := x_iload hc_106 dX8_tier_72 rfl
theorem x_106_74 {ls st : List Value} {h : Hp} {k : Nat} {x : Int32} : ex 106 74 ls (.int x :: .ref k :: st) h = if kd k = 9 ∧ x.toNatClampNeg < ln k ∧ 0 ≤ x then ex 106 75 ls (.int (h k x.toNatClampNeg) :: st) h else none := x_iald hc_106 dX8_tier_74 rfl
theorem x_106_75 {ls : List Value} {h : Hp} {v : Int32} : ex 106 75 ls [.int v] h = some (some (.int v), h) := x_iret hc_106 dX8_tier_75 rfl
theorem x_106_76 {ls st : List Value} {h : Hp}  : ex 106 76 ls (st) h = gA (ldA ls 0) 106 77 ls st h := x_aload_n hc_106 dX8_tier_76 rfl rfl
theorem x_106_77 {ls st : List Value} {h : Hp} {k : Nat} : ex 106 77 ls (.ref k :: st) h = if kd k = 8 then ex 106 80 ls (vl h k 31 :: st) h else none := x_getf hc_106 dX8_tier_77 rfl fr_8_81
theorem x_106_80 {ls st : List Value} {h : Hp}  : ex 106 80 ls (st) h = gI (ldI ls 4) 106 82 ls st h := x_iload hc_106 dX8_tier_80 rfl
theorem x_106_82 {ls st : List Value} {h : Hp} {k : Nat} {x : Int32} : ex 106 82 ls (.int x :: .ref k :: st) h = if kd k = 9 ∧ x.toNatClampNeg < ln k ∧ 0 ≤ x then ex 106 83 ls (.int (h k x.toNatClampNeg) :: st) h else none := x_iald hc_106 dX8_tier_82 rfl
theorem x_106_83 {ls : List Value} {h : Hp} {v : Int32} : ex 106 83 ls [.int v] h = some (some (.int v), h) := x_iret hc_106 dX8_tier_83 rfl
theorem x_106_84 {ls st : List Value} {h : Hp}  : ex 106 84 ls (st) h = gA (ldA ls 0) 106 85 ls st h := x_aload_n hc_106 dX8_tier_84 rfl rfl
theorem x_106_85 {ls st : List Value} {h : Hp} {k : Nat} : ex 106 85 ls (.ref k :: st) h = if kd k = 8 then ex 106 88 ls (vl h k 31 :: st) h else none := x_getf hc_106 dX8_tier_85 rfl fr_8_81
theorem x_106_88 {ls st : List Value} {h : Hp}  : ex 106 88 ls (st) h = gI (ldI ls 4) 106 90 ls st h := x_iload hc_106 dX8_tier_88 rfl
theorem x_106_90 {ls st : List Value} {h : Hp} {k : Nat} {x : Int32} : ex 106 90 ls (.int x :: .ref k :: st) h = if kd k = 9 ∧ x.toNatClampNeg < ln k ∧ 0 ≤ x then ex 106 91 ls (.int (h k x.toNatClampNeg) :: st) h else none := x_iald hc_106 dX8_tier_90 rfl
theorem x_106_91 {ls st : List Value} {h : Hp}  : ex 106 91 ls (st) h = ex 106 92 ls (.int (-1) :: st) h := x_iconst hc_106 dX8_tier_91 rfl (by decide)
theorem x_106_92 {ls st : List Value} {h : Hp} {x z : Int32} : ex 106 92 ls (.int z :: .int x :: st) h = if x = z then ex 106 95 ls st h else ex 106 99 ls st h := x_icmp_ne hc_106 dX8_tier_92 rfl (by decide)
theorem x_106_95 {ls st : List Value} {h : Hp}  : ex 106 95 ls (st) h = ex 106 96 ls (.int (-1) :: st) h := x_iconst hc_106 dX8_tier_95 rfl (by decide)
theorem x_106_96 {ls st : List Value} {h : Hp}  : ex 106 96 ls (st) h = ex 106 106 ls st h := x_goto hc_106 dX8_tier_96 (by decide)
theorem x_106_99 {ls st : List Value} {h : Hp}  : ex 106 99 ls (st) h = gA (ldA ls 0) 106 100 ls st h := x_aload_n hc_106 dX8_tier_99 rfl rfl
theorem x_106_100 {ls st : List Value} {h : Hp} {k : Nat} : ex 106 100 ls (.ref k :: st) h = if kd k = 8 then ex 106 103 ls (vl h k 32 :: st) h else none := x_getf hc_106 dX8_tier_100 rfl fr_8_84
theorem x_106_103 {ls st : List Value} {h : Hp}  : ex 106 103 ls (st) h = gI (ldI ls 4) 106 105 ls st h := x_iload hc_106 dX8_tier_103 rfl
theorem x_106_105 {ls st : List Value} {h : Hp} {k : Nat} {x : Int32} : ex 106 105 ls (.int x :: .ref k :: st) h = if kd k = 9 ∧ x.toNatClampNeg < ln k ∧ 0 ≤ x then ex 106 106 ls (.int (h k x.toNatClampNeg) :: st) h else none := x_iald hc_106 dX8_tier_105 rfl
theorem x_106_106 {ls : List Value} {h : Hp} {v : Int32} : ex 106 106 ls [.int v] h = some (some (.int v), h) := x_iret hc_106 dX8_tier_106 rfl
theorem x_106_107 {ls st : List Value} {h : Hp}  : ex 106 107 ls (st) h = gA (ldA ls 0) 106 108 ls st h := x_aload_n hc_106 dX8_tier_107 rfl rfl
theorem x_106_108 {ls st : List Value} {h : Hp} {k : Nat} : ex 106 108 ls (.ref k :: st) h = if kd k = 8 then ex 106 111 ls (vl h k 31 :: st) h else none := x_getf hc_106 dX8_tier_108 rfl fr_8_81
theorem x_106_111 {ls st : List Value} {h : Hp}  : ex 106 111 ls (st) h = gI (ldI ls 4) 106 113 ls st h := x_iload hc_106 dX8_tier_111 rfl
theorem x_106_113 {ls st : List Value} {h : Hp} {k : Nat} {x : Int32} : ex 106 113 ls (.int x :: .ref k :: st) h = if kd k = 9 ∧ x.toNatClampNeg < ln k ∧ 0 ≤ x then ex 106 114 ls (.int (h k x.toNatClampNeg) :: st) h else none := x_iald hc_106 dX8_tier_113 rfl
theorem x_106_114 {ls st : List Value} {h : Hp}  : ex 106 114 ls (st) h = ex 106 115 ls (.int (-1) :: st) h := x_iconst hc_106 dX8_tier_114 rfl (by decide)
theorem x_106_115 {ls st : List Value} {h : Hp} {x z : Int32} : ex 106 115 ls (.int z :: .int x :: st) h = if x = z then ex 106 118 ls st h else ex 106 122 ls st h := x_icmp_ne hc_106 dX8_tier_115 rfl (by decide)
theorem x_106_118 {ls st : List Value} {h : Hp}  : ex 106 118 ls (st) h = ex 106 119 ls (.int (-1) :: st) h := x_iconst hc_106 dX8_tier_118 rfl (by decide)
theorem x_106_119 {ls st : List Value} {h : Hp}  : ex 106 119 ls (st) h = ex 106 129 ls st h := x_goto hc_106 dX8_tier_119 (by decide)
theorem x_106_122 {ls st : List Value} {h : Hp}  : ex 106 122 ls (st) h = gA (ldA ls 0) 106 123 ls st h := x_aload_n hc_106 dX8_tier_122 rfl rfl
theorem x_106_123 {ls st : List Value} {h : Hp} {k : Nat} : ex 106 123 ls (.ref k :: st) h = if kd k = 8 then ex 106 126 ls (vl h k 33 :: st) h else none := x_getf hc_106 dX8_tier_123 rfl fr_8_87
theorem x_106_126 {ls st : List Value} {h : Hp}  : ex 106 126 ls (st) h = gI (ldI ls 4) 106 128 ls st h := x_iload hc_106 dX8_tier_126 rfl
theorem x_106_128 {ls st : List Value} {h : Hp} {k : Nat} {x : Int32} : ex 106 128 ls (.int x :: .ref k :: st) h = if kd k = 9 ∧ x.toNatClampNeg < ln k ∧ 0 ≤ x then ex 106 129 ls (.int (h k x.toNatClampNeg) :: st) h else none := x_iald hc_106 dX8_tier_128 rfl
theorem x_106_129 {ls : List Value} {h : Hp} {v : Int32} : ex 106 129 ls [.int v] h = some (some (.int v), h) := x_iret hc_106 dX8_tier_129 rfl
theorem x_106_130 {ls st : List Value} {h : Hp}  : ex 106 130 ls (st) h = gA (ldA ls 0) 106 131 ls st h := x_aload_n hc_106 dX8_tier_130 rfl rfl
theorem x_106_131 {ls st : List Value} {h : Hp} {k : Nat} : ex 106 131 ls (.ref k :: st) h = if kd k = 8 then ex 106 134 ls (vl h k 31 :: st) h else none := x_getf hc_106 dX8_tier_131 rfl fr_8_81
theorem x_106_134 {ls st : List Value} {h : Hp}  : ex 106 134 ls (st) h = gI (ldI ls 4) 106 136 ls st h := x_iload hc_106 dX8_tier_134 rfl
theorem x_106_136 {ls st : List Value} {h : Hp} {k : Nat} {x : Int32} : ex 106 136 ls (.int x :: .ref k :: st) h = if kd k = 9 ∧ x.toNatClampNeg < ln k ∧ 0 ≤ x then ex 106 137 ls (.int (h k x.toNatClampNeg) :: st) h else none := x_iald hc_106 dX8_tier_136 rfl
theorem x_106_137 {ls st : List Value} {h : Hp}  : ex 106 137 ls (st) h = ex 106 138 ls (.int (2) :: st) h := x_iconst hc_106 dX8_tier_137 rfl (by decide)
theorem x_106_138 {ls st : List Value} {h : Hp} {x z : Int32} : ex 106 138 ls (.int z :: .int x :: st) h = if x = z then ex 106 141 ls st h else ex 106 151 ls st h := x_icmp_ne hc_106 dX8_tier_138 rfl (by decide)
theorem x_106_141 {ls st : List Value} {h : Hp}  : ex 106 141 ls (st) h = gA (ldA ls 0) 106 142 ls st h := x_aload_n hc_106 dX8_tier_141 rfl rfl
theorem x_106_142 {ls st : List Value} {h : Hp} {k : Nat} : ex 106 142 ls (.ref k :: st) h = if kd k = 8 then ex 106 145 ls (vl h k 34 :: st) h else none := x_getf hc_106 dX8_tier_142 rfl fr_8_90
theorem x_106_145 {ls st : List Value} {h : Hp}  : ex 106 145 ls (st) h = gI (ldI ls 4) 106 147 ls st h := x_iload hc_106 dX8_tier_145 rfl
theorem x_106_147 {ls st : List Value} {h : Hp} {k : Nat} {x : Int32} : ex 106 147 ls (.int x :: .ref k :: st) h = if kd k = 9 ∧ x.toNatClampNeg < ln k ∧ 0 ≤ x then ex 106 148 ls (.int (h k x.toNatClampNeg) :: st) h else none := x_iald hc_106 dX8_tier_147 rfl
theorem x_106_148 {ls st : List Value} {h : Hp}  : ex 106 148 ls (st) h = ex 106 152 ls st h := x_goto hc_106 dX8_tier_148 (by decide)
theorem x_106_151 {ls st : List Value} {h : Hp}  : ex 106 151 ls (st) h = ex 106 152 ls (.int (-1) :: st) h := x_iconst hc_106 dX8_tier_151 rfl (by decide)
theorem x_106_152 {ls : List Value} {h : Hp} {v : Int32} : ex 106 152 ls [.int v] h = some (some (.int v), h) := x_iret hc_106 dX8_tier_152 rfl
theorem x_106_153 {ls st : List Value} {h : Hp}  : ex 106 153 ls (st) h = gA (ldA ls 0) 106 154 ls st h := x_aload_n hc_106 dX8_tier_153 rfl rfl
theorem x_106_154 {ls st : List Value} {h : Hp}  : ex 106 154 ls (st) h = ex 106 156 ls (.int (-7) :: st) h := x_bipush hc_106 dX8_tier_154 rfl (by decide)
theorem x_106_156 {ls st : List Value} {h : Hp} {k : Nat} {a0 : Int32} : ex 106 156 ls (.int a0 :: .ref k :: st) h = if kd k = 8 ∧ st.length ≤ 4 then gC (ex 98 0 [.ref k, .int a0] [] h) 106 159 ls st else none := x_callV (as := [.int a0]) hc_106 dX8_tier_156 rfl mr_8_157 rfl rfl rfl (by decide) (by decide)
theorem x_106_159 {ls : List Value} {h : Hp} {v : Int32} : ex 106 159 ls [.int v] h = some (some (.int v), h) := x_iret hc_106 dX8_tier_159 rfl
theorem x_107_0 {ls st : List Value} {h : Hp}  : ex 107 0 ls (st) h = gA (ldA ls 0) 107 1 ls st h := x_aload_n hc_107 dX8_fill_0 rfl rfl
theorem x_107_1 {ls st : List Value} {h : Hp}  : ex 107 1 ls (st) h = gI (ldI ls 1) 107 2 ls st h := x_iload_n hc_107 dX8_fill_1 rfl rfl
theorem x_107_2 {ls st : List Value} {h : Hp} {k : Nat} {a0 : Int32} : ex 107 2 ls (.int a0 :: .ref k :: st) h = if kd k = 8 ∧ st.length ≤ 4 then gC (ex 105 0 [.ref k, .int a0] [] h) 107 5 ls st else none := x_callV (as := [.int a0]) hc_107 dX8_fill_2 rfl mr_8_168 rfl rfl rfl (by decide) (by decide)
theorem x_107_5 {ls st : List Value} {h : Hp} {x : Int32} : ex 107 5 ls (.int x :: st) h = if x = 0 then ex 107 8 ls st h else ex 107 15 ls st h := x_if_ne hc_107 dX8_fill_5 rfl (by decide)
theorem x_107_8 {ls st : List Value} {h : Hp}  : ex 107 8 ls (st) h = gA (ldA ls 0) 107 9 ls st h := x_aload_n hc_107 dX8_fill_8 rfl rfl
theorem x_107_9 {ls st : List Value} {h : Hp}  : ex 107 9 ls (st) h = ex 107 11 ls (.int (-3) :: st) h := x_bipush hc_107 dX8_fill_9 rfl (by decide)
theorem x_107_11 {ls st : List Value} {h : Hp} {k : Nat} {a0 : Int32} : ex 107 11 ls (.int a0 :: .ref k :: st) h = if kd k = 8 ∧ st.length ≤ 4 then gC (ex 92 0 [.ref k, .int a0] [] h) 107 14 ls st else none := x_callV (as := [.int a0]) hc_107 dX8_fill_11 rfl mr_8_148 rfl rfl rfl (by decide) (by decide)
theorem x_107_14 {ls : List Value} {h : Hp} {v : Int32} : ex 107 14 ls [.int v] h = some (some (.int v), h) := x_iret hc_107 dX8_fill_14 rfl
theorem x_107_15 {ls st : List Value} {h : Hp}  : ex 107 15 ls (st) h = gA (ldA ls 0) 107 16 ls st h := x_aload_n hc_107 dX8_fill_15 rfl rfl
theorem x_107_16 {ls st : List Value} {h : Hp} {k : Nat} : ex 107 16 ls (.ref k :: st) h = if kd k = 8 then ex 107 19 ls (vl h k 22 :: st) h else none := x_getf hc_107 dX8_fill_16 rfl fr_8_53
theorem x_107_19 {ls st : List Value} {h : Hp}  : ex 107 19 ls (st) h = gI (ldI ls 1) 107 20 ls st h := x_iload_n hc_107 dX8_fill_19 rfl rfl
theorem x_107_20 {ls st : List Value} {h : Hp} {k : Nat} {x : Int32} : ex 107 20 ls (.int x :: .ref k :: st) h = if kd k = 9 ∧ x.toNatClampNeg < ln k ∧ 0 ≤ x then ex 107 21 ls (.int (h k x.toNatClampNeg) :: st) h else none := x_iald hc_107 dX8_fill_20 rfl
theorem x_107_21 {ls st : List Value} {h : Hp} {x : Int32} : ex 107 21 ls (.int x :: st) h = if 0 < x then ex 107 63 ls st h else ex 107 24 ls st h := x_if_gt hc_107 dX8_fill_21 rfl (by decide)
theorem x_107_24 {ls st : List Value} {h : Hp}  : ex 107 24 ls (st) h = gI (ldI ls 2) 107 25 ls st h := x_iload_n hc_107 dX8_fill_24 rfl rfl
theorem x_107_25 {ls st : List Value} {h : Hp}  : ex 107 25 ls (st) h = ex 107 26 ls (.int (1) :: st) h := x_iconst hc_107 dX8_fill_25 rfl (by decide)
theorem x_107_26 {ls st : List Value} {h : Hp} {x z : Int32} : ex 107 26 ls (.int z :: .int x :: st) h = if x < z then ex 107 63 ls st h else ex 107 29 ls st h := x_icmp_lt hc_107 dX8_fill_26 rfl (by decide)
theorem x_107_29 {ls st : List Value} {h : Hp}  : ex 107 29 ls (st) h = gI (ldI ls 2) 107 30 ls st h := x_iload_n hc_107 dX8_fill_29 rfl rfl
theorem x_107_30 {ls st : List Value} {h : Hp}  : ex 107 30 ls (st) h = ex 107 32 ls (.int (100) :: st) h := x_bipush hc_107 dX8_fill_30 rfl (by decide)
theorem x_107_32 {ls st : List Value} {h : Hp} {x z : Int32} : ex 107 32 ls (.int z :: .int x :: st) h = if z < x then ex 107 63 ls st h else ex 107 35 ls st h := x_icmp_gt hc_107 dX8_fill_32 rfl (by decide)
theorem x_107_35 {ls st : List Value} {h : Hp}  : ex 107 35 ls (st) h = gA (ldA ls 0) 107 36 ls st h := x_aload_n hc_107 dX8_fill_35 rfl rfl
theorem x_107_36 {ls st : List Value} {h : Hp} {k : Nat} : ex 107 36 ls (.ref k :: st) h = if kd k = 8 then ex 107 39 ls (vl h k 18 :: st) h else none := x_getf hc_107 dX8_fill_36 rfl fr_8_41
theorem x_107_39 {ls st : List Value} {h : Hp}  : ex 107 39 ls (st) h = gI (ldI ls 1) 107 40 ls st h := x_iload_n hc_107 dX8_fill_39 rfl rfl
theorem x_107_40 {ls st : List Value} {h : Hp} {k : Nat} {x : Int32} : ex 107 40 ls (.int x :: .ref k :: st) h = if kd k = 9 ∧ x.toNatClampNeg < ln k ∧ 0 ≤ x then ex 107 41 ls (.int (h k x.toNatClampNeg) :: st) h else none := x_iald hc_107 dX8_fill_40 rfl
theorem x_107_41 {ls st : List Value} {h : Hp}  : ex 107 41 ls (st) h = gI (ldI ls 2) 107 42 ls st h := x_iload_n hc_107 dX8_fill_41 rfl rfl
theorem x_107_42 {ls st : List Value} {h : Hp} {a b : Int32} : ex 107 42 ls (.int b :: .int a :: st) h = ex 107 43 ls (.int (a + b) :: st) h := x_iadd hc_107 dX8_fill_42 rfl
theorem x_107_43 {ls st : List Value} {h : Hp}  : ex 107 43 ls (st) h = ex 107 45 ls (.int (100) :: st) h := x_bipush hc_107 dX8_fill_43 rfl (by decide)
theorem x_107_45 {ls st : List Value} {h : Hp} {x z : Int32} : ex 107 45 ls (.int z :: .int x :: st) h = if z < x then ex 107 63 ls st h else ex 107 48 ls st h := x_icmp_gt hc_107 dX8_fill_45 rfl (by decide)
theorem x_107_48 {ls st : List Value} {h : Hp}  : ex 107 48 ls (st) h = gA (ldA ls 0) 107 49 ls st h := x_aload_n hc_107 dX8_fill_48 rfl rfl
theorem x_107_49 {ls st : List Value} {h : Hp} {k : Nat} : ex 107 49 ls (.ref k :: st) h = if kd k = 8 then ex 107 52 ls (vl h k 10 :: st) h else none := x_getf hc_107 dX8_fill_49 rfl fr_8_17
theorem x_107_52 {ls st : List Value} {h : Hp}  : ex 107 52 ls (st) h = gA (ldA ls 0) 107 53 ls st h := x_aload_n hc_107 dX8_fill_52 rfl rfl
theorem x_107_53 {ls st : List Value} {h : Hp} {k : Nat} : ex 107 53 ls (.ref k :: st) h = if kd k = 8 then ex 107 56 ls (vl h k 20 :: st) h else none := x_getf hc_107 dX8_fill_53 rfl fr_8_47
theorem x_107_56 {ls st : List Value} {h : Hp}  : ex 107 56 ls (st) h = gI (ldI ls 1) 107 57 ls st h := x_iload_n hc_107 dX8_fill_56 rfl rfl
theorem x_107_57 {ls st : List Value} {h : Hp} {k : Nat} {x : Int32} : ex 107 57 ls (.int x :: .ref k :: st) h = if kd k = 9 ∧ x.toNatClampNeg < ln k ∧ 0 ≤ x then ex 107 58 ls (.int (h k x.toNatClampNeg) :: st) h else none := x_iald hc_107 dX8_fill_57 rfl
theorem x_107_58 {ls st : List Value} {h : Hp} {k : Nat} {x : Int32} : ex 107 58 ls (.int x :: .ref k :: st) h = if kd k = 9 ∧ x.toNatClampNeg < ln k ∧ 0 ≤ x then ex 107 59 ls (.int (h k x.toNatClampNeg) :: st) h else none := x_iald hc_107 dX8_fill_58 rfl
theorem x_107_59 {ls st : List Value} {h : Hp}  : ex 107 59 ls (st) h = gI (ldI ls 2) 107 60 ls st h := x_iload_n hc_107 dX8_fill_59 rfl rfl
theorem x_107_60 {ls st : List Value} {h : Hp} {x z : Int32} : ex 107 60 ls (.int z :: .int x :: st) h = if x < z then ex 107 63 ls st h else ex 107 70 ls st h := x_icmp_ge hc_107 dX8_fill_60 rfl (by decide)
theorem x_107_63 {ls st : List Value} {h : Hp}  : ex 107 63 ls (st) h = gA (ldA ls 0) 107 64 ls st h := x_aload_n hc_107 dX8_fill_63 rfl rfl
theorem x_107_64 {ls st : List Value} {h : Hp}  : ex 107 64 ls (st) h = ex 107 66 ls (.int (-7) :: st) h := x_bipush hc_107 dX8_fill_64 rfl (by decide)
theorem x_107_66 {ls st : List Value} {h : Hp} {k : Nat} {a0 : Int32} : ex 107 66 ls (.int a0 :: .ref k :: st) h = if kd k = 8 ∧ st.length ≤ 4 then gC (ex 92 0 [.ref k, .int a0] [] h) 107 69 ls st else none := x_callV (as := [.int a0]) hc_107 dX8_fill_66 rfl mr_8_148 rfl rfl rfl (by decide) (by decide)
theorem x_107_69 {ls : List Value} {h : Hp} {v : Int32} : ex 107 69 ls [.int v] h = some (some (.int v), h) := x_iret hc_107 dX8_fill_69 rfl
theorem x_107_70 {ls st : List Value} {h : Hp}  : ex 107 70 ls (st) h = gA (ldA ls 0) 107 71 ls st h := x_aload_n hc_107 dX8_fill_70 rfl rfl
theorem x_107_71 {ls st : List Value} {h : Hp} {k : Nat} : ex 107 71 ls (.ref k :: st) h = if kd k = 8 then ex 107 74 ls (vl h k 18 :: st) h else none := x_getf hc_107 dX8_fill_71 rfl fr_8_41
theorem x_107_74 {ls st : List Value} {h : Hp}  : ex 107 74 ls (st) h = gI (ldI ls 1) 107 75 ls st h := x_iload_n hc_107 dX8_fill_74 rfl rfl
theorem x_107_75ii {ls st : List Value} {h : Hp} {u : Int32} {v : Int32} : ex 107 75 ls (.int u :: .int v :: st) h = ex 107 76 ls (.int u :: .int v :: .int u :: .int v :: st) h := x_dup2_ii hc_107 dX8_fill_75 rfl
theorem x_107_75ia {ls st : List Value} {h : Hp} {u : Int32} {v : Nat} : ex 107 75 ls (.int u :: .ref v :: st) h = ex 107 76 ls (.int u :: .ref v :: .int u :: .ref v :: st) h := x_dup2_ia hc_107 dX8_fill_75 rfl
theorem x_107_75ai {ls st : List Value} {h : Hp} {u : Nat} {v : Int32} : ex 107 75 ls (.ref u :: .int v :: st) h = ex 107 76 ls (.ref u :: .int v :: .ref u :: .int v :: st) h := x_dup2_ai hc_107 dX8_fill_75 rfl
theorem x_107_75aa {ls st : List Value} {h : Hp} {u : Nat} {v : Nat} : ex 107 75 ls (.ref u :: .ref v :: st) h = ex 107 76 ls (.ref u :: .ref v :: .ref u :: .ref v :: st) h := x_dup2_aa hc_107 dX8_fill_75 rfl
theorem x_107_76 {ls st : List Value} {h : Hp} {k : Nat} {x : Int32} : ex 107 76 ls (.int x :: .ref k :: st) h = if kd k = 9 ∧ x.toNatClampNeg < ln k ∧ 0 ≤ x then ex 107 77 ls (.int (h k x.toNatClampNeg) :: st) h else none := x_iald hc_107 dX8_fill_76 rfl
theorem x_107_77 {ls st : List Value} {h : Hp}  : ex 107 77 ls (st) h = gI (ldI ls 2) 107 78 ls st h := x_iload_n hc_107 dX8_fill_77 rfl rfl
theorem x_107_78 {ls st : List Value} {h : Hp} {a b : Int32} : ex 107 78 ls (.int b :: .int a :: st) h = ex 107 79 ls (.int (a + b) :: st) h := x_iadd hc_107 dX8_fill_78 rfl
theorem x_107_79 {ls st : List Value} {h : Hp} {k : Nat} {x u : Int32} : ex 107 79 ls (.int u :: .int x :: .ref k :: st) h = if kd k = 9 ∧ x.toNatClampNeg < ln k ∧ 0 ≤ x then ex 107 80 ls st (hu h k x.toNatClampNeg u) else none := x_iast hc_107 dX8_fill_79 rfl
theorem x_107_80 {ls st : List Value} {h : Hp}  : ex 107 80 ls (st) h = gA (ldA ls 0) 107 81 ls st h := x_aload_n hc_107 dX8_fill_80 rfl rfl
theorem x_107_81 {ls st : List Value} {h : Hp} {k : Nat} : ex 107 81 ls (.ref k :: st) h = if kd k = 8 then ex 107 84 ls (vl h k 10 :: st) h else none := x_getf hc_107 dX8_fill_81 rfl fr_8_17
theorem x_107_84 {ls st : List Value} {h : Hp}  : ex 107 84 ls (st) h = gA (ldA ls 0) 107 85 ls st h := x_aload_n hc_107 dX8_fill_84 rfl rfl
theorem x_107_85 {ls st : List Value} {h : Hp} {k : Nat} : ex 107 85 ls (.ref k :: st) h = if kd k = 8 then ex 107 88 ls (vl h k 20 :: st) h else none := x_getf hc_107 dX8_fill_85 rfl fr_8_47
theorem x_107_88 {ls st : List Value} {h : Hp}  : ex 107 88 ls (st) h = gI (ldI ls 1) 107 89 ls st h := x_iload_n hc_107 dX8_fill_88 rfl rfl
theorem x_107_89 {ls st : List Value} {h : Hp} {k : Nat} {x : Int32} : ex 107 89 ls (.int x :: .ref k :: st) h = if kd k = 9 ∧ x.toNatClampNeg < ln k ∧ 0 ≤ x then ex 107 90 ls (.int (h k x.toNatClampNeg) :: st) h else none := x_iald hc_107 dX8_fill_89 rfl
theorem x_107_90ii {ls st : List Value} {h : Hp} {u : Int32} {v : Int32} : ex 107 90 ls (.int u :: .int v :: st) h = ex 107 91 ls (.int u :: .int v :: .int u :: .int v :: st) h := x_dup2_ii hc_107 dX8_fill_90 rfl
theorem x_107_90ia {ls st : List Value} {h : Hp} {u : Int32} {v : Nat} : ex 107 90 ls (.int u :: .ref v :: st) h = ex 107 91 ls (.int u :: .ref v :: .int u :: .ref v :: st) h := x_dup2_ia hc_107 dX8_fill_90 rfl
theorem x_107_90ai {ls st : List Value} {h : Hp} {u : Nat} {v : Int32} : ex 107 90 ls (.ref u :: .int v :: st) h = ex 107 91 ls (.ref u :: .int v :: .ref u :: .int v :: st) h := x_dup2_ai hc_107 dX8_fill_90 rfl
theorem x_107_90aa {ls st : List Value} {h : Hp} {u : Nat} {v : Nat} : ex 107 90 ls (.ref u :: .ref v :: st) h = ex 107 91 ls (.ref u :: .ref v :: .ref u :: .ref v :: st) h := x_dup2_aa hc_107 dX8_fill_90 rfl
theorem x_107_91 {ls st : List Value} {h : Hp} {k : Nat} {x : Int32} : ex 107 91 ls (.int x :: .ref k :: st) h = if kd k = 9 ∧ x.toNatClampNeg < ln k ∧ 0 ≤ x then ex 107 92 ls (.int (h k x.toNatClampNeg) :: st) h else none := x_iald hc_107 dX8_fill_91 rfl
theorem x_107_92 {ls st : List Value} {h : Hp}  : ex 107 92 ls (st) h = gI (ldI ls 2) 107 93 ls st h := x_iload_n hc_107 dX8_fill_92 rfl rfl
theorem x_107_93 {ls st : List Value} {h : Hp} {a b : Int32} : ex 107 93 ls (.int b :: .int a :: st) h = ex 107 94 ls (.int (a - b) :: st) h := x_isub hc_107 dX8_fill_93 rfl
theorem x_107_94 {ls st : List Value} {h : Hp} {k : Nat} {x u : Int32} : ex 107 94 ls (.int u :: .int x :: .ref k :: st) h = if kd k = 9 ∧ x.toNatClampNeg < ln k ∧ 0 ≤ x then ex 107 95 ls st (hu h k x.toNatClampNeg u) else none := x_iast hc_107 dX8_fill_94 rfl
theorem x_107_95 {ls st : List Value} {h : Hp}  : ex 107 95 ls (st) h = gA (ldA ls 0) 107 96 ls st h := x_aload_n hc_107 dX8_fill_95 rfl rfl
theorem x_107_96i {ls st : List Value} {h : Hp} {u : Int32} : ex 107 96 ls (.int u :: st) h = ex 107 97 ls (.int u :: .int u :: st) h := x_dup_i hc_107 dX8_fill_96 rfl
theorem x_107_96a {ls st : List Value} {h : Hp} {u : Nat} : ex 107 96 ls (.ref u :: st) h = ex 107 97 ls (.ref u :: .ref u :: st) h := x_dup_a hc_107 dX8_fill_96 rfl
theorem x_107_97 {ls st : List Value} {h : Hp} {k : Nat} : ex 107 97 ls (.ref k :: st) h = if kd k = 8 then ex 107 100 ls (vl h k 5 :: st) h else none := x_getf hc_107 dX8_fill_97 rfl fr_8_171
theorem x_107_100 {ls st : List Value} {h : Hp}  : ex 107 100 ls (st) h = gI (ldI ls 2) 107 101 ls st h := x_iload_n hc_107 dX8_fill_100 rfl rfl
theorem x_107_101 {ls st : List Value} {h : Hp} {a b : Int32} : ex 107 101 ls (.int b :: .int a :: st) h = ex 107 102 ls (.int (a + b) :: st) h := x_iadd hc_107 dX8_fill_101 rfl
theorem x_107_102 {ls st : List Value} {h : Hp} {k : Nat} {x : Int32} : ex 107 102 ls (.int x :: .ref k :: st) h = if kd k = 8 then ex 107 105 ls st (hu h k 5 x) else none := x_putf hc_107 dX8_fill_102 rfl fr_8_171 (by decide)
theorem x_107_105 {ls st : List Value} {h : Hp}  : ex 107 105 ls (st) h = gA (ldA ls 0) 107 106 ls st h := x_aload_n hc_107 dX8_fill_105 rfl rfl
theorem x_107_106 {ls st : List Value} {h : Hp} {k : Nat} : ex 107 106 ls (.ref k :: st) h = if kd k = 8 then ex 107 109 ls (vl h k 18 :: st) h else none := x_getf hc_107 dX8_fill_106 rfl fr_8_41
theorem x_107_109 {ls st : List Value} {h : Hp}  : ex 107 109 ls (st) h = gI (ldI ls 1) 107 110 ls st h := x_iload_n hc_107 dX8_fill_109 rfl rfl
theorem x_107_110 {ls st : List Value} {h : Hp} {k : Nat} {x : Int32} : ex 107 110 ls (.int x :: .ref k :: st) h = if kd k = 9 ∧ x.toNatClampNeg < ln k ∧ 0 ≤ x then ex 107 111 ls (.int (h k x.toNatClampNeg) :: st) h else none := x_iald hc_107 dX8_fill_110 rfl
theorem x_107_111 {ls : List Value} {h : Hp} {v : Int32} : ex 107 111 ls [.int v] h = some (some (.int v), h) := x_iret hc_107 dX8_fill_111 rfl
theorem x_108_0 {ls st : List Value} {h : Hp}  : ex 108 0 ls (st) h = gA (ldA ls 0) 108 1 ls st h := x_aload_n hc_108 dX8_vent_0 rfl rfl
theorem x_108_1 {ls st : List Value} {h : Hp}  : ex 108 1 ls (st) h = gI (ldI ls 1) 108 2 ls st h := x_iload_n hc_108 dX8_vent_1 rfl rfl
theorem x_108_2 {ls st : List Value} {h : Hp} {k : Nat} {a0 : Int32} : ex 108 2 ls (.int a0 :: .ref k :: st) h = if kd k = 8 ∧ st.length ≤ 4 then gC (ex 105 0 [.ref k, .int a0] [] h) 108 5 ls st else none := x_callV (as := [.int a0]) hc_108 dX8_vent_2 rfl mr_8_168 rfl rfl rfl (by decide) (by decide)
theorem x_108_5 {ls st : List Value} {h : Hp} {x : Int32} : ex 108 5 ls (.int x :: st) h = if x = 0 then ex 108 8 ls st h else ex 108 15 ls st h := x_if_ne hc_108 dX8_vent_5 rfl (by decide)
theorem x_108_8 {ls st : List Value} {h : Hp}  : ex 108 8 ls (st) h = gA (ldA ls 0) 108 9 ls st h := x_aload_n hc_108 dX8_vent_8 rfl rfl
theorem x_108_9 {ls st : List Value} {h : Hp}  : ex 108 9 ls (st) h = ex 108 11 ls (.int (-3) :: st) h := x_bipush hc_108 dX8_vent_9 rfl (by decide)
theorem x_108_11 {ls st : List Value} {h : Hp} {k : Nat} {a0 : Int32} : ex 108 11 ls (.int a0 :: .ref k :: st) h = if kd k = 8 ∧ st.length ≤ 4 then gC (ex 92 0 [.ref k, .int a0] [] h) 108 14 ls st else none := x_callV (as := [.int a0]) hc_108 dX8_vent_11 rfl mr_8_148 rfl rfl rfl (by decide) (by decide)
theorem x_108_14 {ls : List Value} {h : Hp} {v : Int32} : ex 108 14 ls [.int v] h = some (some (.int v), h) := x_iret hc_108 dX8_vent_14 rfl
theorem x_108_15 {ls st : List Value} {h : Hp}  : ex 108 15 ls (st) h = gI (ldI ls 2) 108 16 ls st h := x_iload_n hc_108 dX8_vent_15 rfl rfl
theorem x_108_16 {ls st : List Value} {h : Hp} {x : Int32} : ex 108 16 ls (.int x :: st) h = if x < 0 then ex 108 24 ls st h else ex 108 19 ls st h := x_if_lt hc_108 dX8_vent_16 rfl (by decide)
theorem x_108_19 {ls st : List Value} {h : Hp}  : ex 108 19 ls (st) h = gI (ldI ls 2) 108 20 ls st h := x_iload_n hc_108 dX8_vent_19 rfl rfl
theorem x_108_20 {ls st : List Value} {h : Hp}  : ex 108 20 ls (st) h = ex 108 21 ls (.int (1) :: st) h := x_iconst hc_108 dX8_vent_20 rfl (by decide)
theorem x_108_21 {ls st : List Value} {h : Hp} {x z : Int32} : ex 108 21 ls (.int z :: .int x :: st) h = if z < x then ex 108 24 ls st h else ex 108 31 ls st h := x_icmp_le hc_108 dX8_vent_21 rfl (by decide)
theorem x_108_24 {ls st : List Value} {h : Hp}  : ex 108 24 ls (st) h = gA (ldA ls 0) 108 25 ls st h := x_aload_n hc_108 dX8_vent_24 rfl rfl
theorem x_108_25 {ls st : List Value} {h : Hp}  : ex 108 25 ls (st) h = ex 108 27 ls (.int (-7) :: st) h := x_bipush hc_108 dX8_vent_25 rfl (by decide)
theorem x_108_27 {ls st : List Value} {h : Hp} {k : Nat} {a0 : Int32} : ex 108 27 ls (.int a0 :: .ref k :: st) h = if kd k = 8 ∧ st.length ≤ 4 then gC (ex 92 0 [.ref k, .int a0] [] h) 108 30 ls st else none := x_callV (as := [.int a0]) hc_108 dX8_vent_27 rfl mr_8_148 rfl rfl rfl (by decide) (by decide)
theorem x_108_30 {ls : List Value} {h : Hp} {v : Int32} : ex 108 30 ls [.int v] h = some (some (.int v), h) := x_iret hc_108 dX8_vent_30 rfl
theorem x_108_31 {ls st : List Value} {h : Hp}  : ex 108 31 ls (st) h = gA (ldA ls 0) 108 32 ls st h := x_aload_n hc_108 dX8_vent_31 rfl rfl
theorem x_108_32 {ls st : List Value} {h : Hp} {k : Nat} : ex 108 32 ls (.ref k :: st) h = if kd k = 8 then ex 108 35 ls (vl h k 19 :: st) h else none := x_getf hc_108 dX8_vent_32 rfl fr_8_44
theorem x_108_35 {ls st : List Value} {h : Hp}  : ex 108 35 ls (st) h = gI (ldI ls 1) 108 36 ls st h := x_iload_n hc_108 dX8_vent_35 rfl rfl
theorem x_108_36 {ls st : List Value} {h : Hp} {k : Nat} {x : Int32} : ex 108 36 ls (.int x :: .ref k :: st) h = if kd k = 9 ∧ x.toNatClampNeg < ln k ∧ 0 ≤ x then ex 108 37 ls (.int (h k x.toNatClampNeg) :: st) h else none := x_iald hc_108 dX8_vent_36 rfl
theorem x_108_37 {ls st : List Value} {h : Hp} {x : Int32} : ex 108 37 ls (.int x :: st) h = ex 108 38 (ls.set 3 (.int x)) st h := x_istore_n hc_108 dX8_vent_37 rfl rfl (by decide)
theorem x_108_38 {ls st : List Value} {h : Hp}  : ex 108 38 ls (st) h = gA (ldA ls 0) 108 39 ls st h := x_aload_n hc_108 dX8_vent_38 rfl rfl
theorem x_108_39 {ls st : List Value} {h : Hp} {k : Nat} : ex 108 39 ls (.ref k :: st) h = if kd k = 8 then ex 108 42 ls (vl h k 19 :: st) h else none := x_getf hc_108 dX8_vent_39 rfl fr_8_44
theorem x_108_42 {ls st : List Value} {h : Hp}  : ex 108 42 ls (st) h = gI (ldI ls 1) 108 43 ls st h := x_iload_n hc_108 dX8_vent_42 rfl rfl
theorem x_108_43 {ls st : List Value} {h : Hp}  : ex 108 43 ls (st) h = gI (ldI ls 2) 108 44 ls st h := x_iload_n hc_108 dX8_vent_43 rfl rfl
theorem x_108_44 {ls st : List Value} {h : Hp} {k : Nat} {x u : Int32} : ex 108 44 ls (.int u :: .int x :: .ref k :: st) h = if kd k = 9 ∧ x.toNatClampNeg < ln k ∧ 0 ≤ x then ex 108 45 ls st (hu h k x.toNatClampNeg u) else none := x_iast hc_108 dX8_vent_44 rfl
theorem x_108_45 {ls st : List Value} {h : Hp}  : ex 108 45 ls (st) h = gI (ldI ls 3) 108 46 ls st h := x_iload_n hc_108 dX8_vent_45 rfl rfl
theorem x_108_46 {ls : List Value} {h : Hp} {v : Int32} : ex 108 46 ls [.int v] h = some (some (.int v), h) := x_iret hc_108 dX8_vent_46 rfl
theorem x_109_0 {ls st : List Value} {h : Hp}  : ex 109 0 ls (st) h = gA (ldA ls 0) 109 1 ls st h := x_aload_n hc_109 dX8_send_0 rfl rfl
theorem x_109_1 {ls st : List Value} {h : Hp}  : ex 109 1 ls (st) h = gI (ldI ls 1) 109 2 ls st h := x_iload_n hc_109 dX8_send_1 rfl rfl
theorem x_109_2 {ls st : List Value} {h : Hp} {k : Nat} {a0 : Int32} : ex 109 2 ls (.int a0 :: .ref k :: st) h = if kd k = 8 ∧ st.length ≤ 4 then gC (ex 105 0 [.ref k, .int a0] [] h) 109 5 ls st else none := x_callV (as := [.int a0]) hc_109 dX8_send_2 rfl mr_8_168 rfl rfl rfl (by decide) (by decide)
theorem x_109_5 {ls st : List Value} {h : Hp} {x : Int32} : ex 109 5 ls (.int x :: st) h = if x = 0 then ex 109 16 ls st h else ex 109 8 ls st h := x_if_eq hc_109 dX8_send_5 rfl (by decide)
theorem x_109_8 {ls st : List Value} {h : Hp}  : ex 109 8 ls (st) h = gA (ldA ls 0) 109 9 ls st h := x_aload_n hc_109 dX8_send_8 rfl rfl
theorem x_109_9 {ls st : List Value} {h : Hp}  : ex 109 9 ls (st) h = gI (ldI ls 2) 109 10 ls st h := x_iload_n hc_109 dX8_send_9 rfl rfl
theorem x_109_10 {ls st : List Value} {h : Hp} {k : Nat} {a0 : Int32} : ex 109 10 ls (.int a0 :: .ref k :: st) h = if kd k = 8 ∧ st.length ≤ 4 then gC (ex 94 0 [.ref k, .int a0] [] h) 109 13 ls st else none := x_callV (as := [.int a0]) hc_109 dX8_send_10 rfl mr_8_152 rfl rfl rfl (by decide) (by decide)
theorem x_109_13 {ls st : List Value} {h : Hp} {x : Int32} : ex 109 13 ls (.int x :: st) h = if x = 0 then ex 109 16 ls st h else ex 109 23 ls st h := x_if_ne hc_109 dX8_send_13 rfl (by decide)
theorem x_109_16 {ls st : List Value} {h : Hp}  : ex 109 16 ls (st) h = gA (ldA ls 0) 109 17 ls st h := x_aload_n hc_109 dX8_send_16 rfl rfl
theorem x_109_17 {ls st : List Value} {h : Hp}  : ex 109 17 ls (st) h = ex 109 19 ls (.int (-3) :: st) h := x_bipush hc_109 dX8_send_17 rfl (by decide)
theorem x_109_19 {ls st : List Value} {h : Hp} {k : Nat} {a0 : Int32} : ex 109 19 ls (.int a0 :: .ref k :: st) h = if kd k = 8 ∧ st.length ≤ 4 then gC (ex 92 0 [.ref k, .int a0] [] h) 109 22 ls st else none := x_callV (as := [.int a0]) hc_109 dX8_send_19 rfl mr_8_148 rfl rfl rfl (by decide) (by decide)
theorem x_109_22 {ls : List Value} {h : Hp} {v : Int32} : ex 109 22 ls [.int v] h = some (some (.int v), h) := x_iret hc_109 dX8_send_22 rfl
theorem x_109_23 {ls st : List Value} {h : Hp}  : ex 109 23 ls (st) h = gA (ldA ls 0) 109 24 ls st h := x_aload_n hc_109 dX8_send_23 rfl rfl
theorem x_109_24 {ls st : List Value} {h : Hp} {k : Nat} : ex 109 24 ls (.ref k :: st) h = if kd k = 8 then ex 109 27 ls (vl h k 23 :: st) h else none := x_getf hc_109 dX8_send_24 rfl fr_8_56
theorem x_109_27 {ls st : List Value} {h : Hp}  : ex 109 27 ls (st) h = gI (ldI ls 1) 109 28 ls st h := x_iload_n hc_109 dX8_send_27 rfl rfl
theorem x_109_28 {ls st : List Value} {h : Hp} {k : Nat} {x : Int32} : ex 109 28 ls (.int x :: .ref k :: st) h = if kd k = 9 ∧ x.toNatClampNeg < ln k ∧ 0 ≤ x then ex 109 29 ls (.int (h k x.toNatClampNeg) :: st) h else none := x_iald hc_109 dX8_send_28 rfl
theorem x_109_29 {ls st : List Value} {h : Hp}  : ex 109 29 ls (st) h = ex 109 30 ls (.int (-1) :: st) h := x_iconst hc_109 dX8_send_29 rfl (by decide)
theorem x_109_30 {ls st : List Value} {h : Hp} {x z : Int32} : ex 109 30 ls (.int z :: .int x :: st) h = if x = z then ex 109 33 ls st h else ex 109 43 ls st h := x_icmp_ne hc_109 dX8_send_30 rfl (by decide)
theorem x_109_33 {ls st : List Value} {h : Hp}  : ex 109 33 ls (st) h = gA (ldA ls 0) 109 34 ls st h := x_aload_n hc_109 dX8_send_33 rfl rfl
theorem x_109_34 {ls st : List Value} {h : Hp} {k : Nat} : ex 109 34 ls (.ref k :: st) h = if kd k = 8 then ex 109 37 ls (vl h k 20 :: st) h else none := x_getf hc_109 dX8_send_34 rfl fr_8_47
theorem x_109_37 {ls st : List Value} {h : Hp}  : ex 109 37 ls (st) h = gI (ldI ls 1) 109 38 ls st h := x_iload_n hc_109 dX8_send_37 rfl rfl
theorem x_109_38 {ls st : List Value} {h : Hp} {k : Nat} {x : Int32} : ex 109 38 ls (.int x :: .ref k :: st) h = if kd k = 9 ∧ x.toNatClampNeg < ln k ∧ 0 ≤ x then ex 109 39 ls (.int (h k x.toNatClampNeg) :: st) h else none := x_iald hc_109 dX8_send_38 rfl
theorem x_109_39 {ls st : List Value} {h : Hp}  : ex 109 39 ls (st) h = gI (ldI ls 2) 109 40 ls st h := x_iload_n hc_109 dX8_send_39 rfl rfl
theorem x_109_40 {ls st : List Value} {h : Hp} {x z : Int32} : ex 109 40 ls (.int z :: .int x :: st) h = if x = z then ex 109 43 ls st h else ex 109 50 ls st h := x_icmp_ne hc_109 dX8_send_40 rfl (by decide)
theorem x_109_43 {ls st : List Value} {h : Hp}  : ex 109 43 ls (st) h = gA (ldA ls 0) 109 44 ls st h := x_aload_n hc_109 dX8_send_43 rfl rfl
theorem x_109_44 {ls st : List Value} {h : Hp}  : ex 109 44 ls (st) h = ex 109 46 ls (.int (-7) :: st) h := x_bipush hc_109 dX8_send_44 rfl (by decide)
theorem x_109_46 {ls st : List Value} {h : Hp} {k : Nat} {a0 : Int32} : ex 109 46 ls (.int a0 :: .ref k :: st) h = if kd k = 8 ∧ st.length ≤ 4 then gC (ex 92 0 [.ref k, .int a0] [] h) 109 49 ls st else none := x_callV (as := [.int a0]) hc_109 dX8_send_46 rfl mr_8_148 rfl rfl rfl (by decide) (by decide)
theorem x_109_49 {ls : List Value} {h : Hp} {v : Int32} : ex 109 49 ls [.int v] h = some (some (.int v), h) := x_iret hc_109 dX8_send_49 rfl
theorem x_109_50 {ls st : List Value} {h : Hp}  : ex 109 50 ls (st) h = gA (ldA ls 0) 109 51 ls st h := x_aload_n hc_109 dX8_send_50 rfl rfl
theorem x_109_51 {ls st : List Value} {h : Hp}  : ex 109 51 ls (st) h = gI (ldI ls 1) 109 52 ls st h := x_iload_n hc_109 dX8_send_51 rfl rfl
theorem x_109_52 {ls st : List Value} {h : Hp}  : ex 109 52 ls (st) h = gI (ldI ls 2) 109 53 ls st h := x_iload_n hc_109 dX8_send_52 rfl rfl
theorem x_109_53 {ls st : List Value} {h : Hp} {k : Nat} {a0 : Int32} {a1 : Int32} : ex 109 53 ls (.int a1 :: .int a0 :: .ref k :: st) h = if kd k = 8 ∧ st.length ≤ 4 then gC (ex 110 0 [.ref k, .int a0, .int a1, .null] [] h) 109 56 ls st else none := x_callV (as := [.int a0, .int a1]) hc_109 dX8_send_53 rfl mr_8_174 rfl rfl rfl (by decide) (by decide)
theorem x_109_56 {ls st : List Value} {h : Hp}  : ex 109 56 ls (st) h = gA (ldA ls 0) 109 57 ls st h := x_aload_n hc_109 dX8_send_56 rfl rfl
theorem x_109_57 {ls st : List Value} {h : Hp}  : ex 109 57 ls (st) h = gA (ldA ls 0) 109 58 ls st h := x_aload_n hc_109 dX8_send_57 rfl rfl
theorem x_109_58 {ls st : List Value} {h : Hp} {k : Nat} : ex 109 58 ls (.ref k :: st) h = if kd k = 8 then ex 109 61 ls (vl h k 20 :: st) h else none := x_getf hc_109 dX8_send_58 rfl fr_8_47
theorem x_109_61 {ls st : List Value} {h : Hp}  : ex 109 61 ls (st) h = gI (ldI ls 1) 109 62 ls st h := x_iload_n hc_109 dX8_send_61 rfl rfl
theorem x_109_62 {ls st : List Value} {h : Hp} {k : Nat} {x : Int32} : ex 109 62 ls (.int x :: .ref k :: st) h = if kd k = 9 ∧ x.toNatClampNeg < ln k ∧ 0 ≤ x then ex 109 63 ls (.int (h k x.toNatClampNeg) :: st) h else none := x_iald hc_109 dX8_send_62 rfl
theorem x_109_63 {ls st : List Value} {h : Hp}  : ex 109 63 ls (st) h = gI (ldI ls 2) 109 64 ls st h := x_iload_n hc_109 dX8_send_63 rfl rfl
theorem x_109_64 {ls st : List Value} {h : Hp} {k : Nat} {a0 : Int32} {a1 : Int32} : ex 109 64 ls (.int a1 :: .int a0 :: .ref k :: st) h = if kd k = 8 ∧ st.length ≤ 4 then gC (ex 111 0 [.ref k, .int a0, .int a1, .null, .null] [] h) 109 67 ls st else none := x_callV (as := [.int a0, .int a1]) hc_109 dX8_send_64 rfl mr_8_178 rfl rfl rfl (by decide) (by decide)
theorem x_109_67 {ls : List Value} {h : Hp} {v : Int32} : ex 109 67 ls [.int v] h = some (some (.int v), h) := x_iret hc_109 dX8_send_67 rfl
theorem x_110_0 {ls st : List Value} {h : Hp}  : ex 110 0 ls (st) h = gA (ldA ls 0) 110 1 ls st h := x_aload_n hc_110 dX8_sends_0 rfl rfl
theorem x_110_1 {ls st : List Value} {h : Hp} {k : Nat} : ex 110 1 ls (.ref k :: st) h = if kd k = 8 then ex 110 4 ls (vl h k 23 :: st) h else none := x_getf hc_110 dX8_sends_1 rfl fr_8_56
theorem x_110_4 {ls st : List Value} {h : Hp}  : ex 110 4 ls (st) h = gI (ldI ls 1) 110 5 ls st h := x_iload_n hc_110 dX8_sends_4 rfl rfl
theorem x_110_5 {ls st : List Value} {h : Hp}  : ex 110 5 ls (st) h = gI (ldI ls 2) 110 6 ls st h := x_iload_n hc_110 dX8_sends_5 rfl rfl
theorem x_110_6 {ls st : List Value} {h : Hp} {k : Nat} {x u : Int32} : ex 110 6 ls (.int u :: .int x :: .ref k :: st) h = if kd k = 9 ∧ x.toNatClampNeg < ln k ∧ 0 ≤ x then ex 110 7 ls st (hu h k x.toNatClampNeg u) else none := x_iast hc_110 dX8_sends_6 rfl
theorem x_110_7 {ls st : List Value} {h : Hp}  : ex 110 7 ls (st) h = gA (ldA ls 0) 110 8 ls st h := x_aload_n hc_110 dX8_sends_7 rfl rfl
theorem x_110_8 {ls st : List Value} {h : Hp} {k : Nat} : ex 110 8 ls (.ref k :: st) h = if kd k = 8 then ex 110 11 ls (vl h k 27 :: st) h else none := x_getf hc_110 dX8_sends_8 rfl fr_8_68
theorem x_110_11 {ls st : List Value} {h : Hp}  : ex 110 11 ls (st) h = gI (ldI ls 1) 110 12 ls st h := x_iload_n hc_110 dX8_sends_11 rfl rfl
theorem x_110_12 {ls st : List Value} {h : Hp}  : ex 110 12 ls (st) h = ex 110 13 ls (.int (0) :: st) h := x_iconst hc_110 dX8_sends_12 rfl (by decide)
theorem x_110_13 {ls st : List Value} {h : Hp} {k : Nat} {x u : Int32} : ex 110 13 ls (.int u :: .int x :: .ref k :: st) h = if (kd k = 10 ∧ x.toNatClampNeg < ln k ∧ 0 ≤ x) ∧ (u = 0 ∨ u = 1) then ex 110 14 ls st (hu h k x.toNatClampNeg u) else none := x_zast hc_110 dX8_sends_13 rfl
theorem x_110_14 {ls st : List Value} {h : Hp}  : ex 110 14 ls (st) h = gA (ldA ls 0) 110 15 ls st h := x_aload_n hc_110 dX8_sends_14 rfl rfl
theorem x_110_15 {ls st : List Value} {h : Hp} {k : Nat} : ex 110 15 ls (.ref k :: st) h = if kd k = 8 then ex 110 18 ls (vl h k 24 :: st) h else none := x_getf hc_110 dX8_sends_15 rfl fr_8_59
theorem x_110_18 {ls st : List Value} {h : Hp}  : ex 110 18 ls (st) h = gI (ldI ls 1) 110 19 ls st h := x_iload_n hc_110 dX8_sends_18 rfl rfl
theorem x_110_19 {ls st : List Value} {h : Hp}  : ex 110 19 ls (st) h = gA (ldA ls 0) 110 20 ls st h := x_aload_n hc_110 dX8_sends_19 rfl rfl
theorem x_110_20 {ls st : List Value} {h : Hp} {k : Nat} : ex 110 20 ls (.ref k :: st) h = if kd k = 8 then ex 110 23 ls (vl h k 13 :: st) h else none := x_getf hc_110 dX8_sends_20 rfl fr_8_26
theorem x_110_23 {ls st : List Value} {h : Hp}  : ex 110 23 ls (st) h = gA (ldA ls 0) 110 24 ls st h := x_aload_n hc_110 dX8_sends_23 rfl rfl
theorem x_110_24 {ls st : List Value} {h : Hp} {k : Nat} : ex 110 24 ls (.ref k :: st) h = if kd k = 8 then ex 110 27 ls (vl h k 20 :: st) h else none := x_getf hc_110 dX8_sends_24 rfl fr_8_47
theorem x_110_27 {ls st : List Value} {h : Hp}  : ex 110 27 ls (st) h = gI (ldI ls 1) 110 28 ls st h := x_iload_n hc_110 dX8_sends_27 rfl rfl
theorem x_110_28 {ls st : List Value} {h : Hp} {k : Nat} {x : Int32} : ex 110 28 ls (.int x :: .ref k :: st) h = if kd k = 9 ∧ x.toNatClampNeg < ln k ∧ 0 ≤ x then ex 110 29 ls (.int (h k x.toNatClampNeg) :: st) h else none := x_iald hc_110 dX8_sends_28 rfl
theorem x_110_29 {ls st : List Value} {h : Hp} {k : Nat} {x : Int32} : ex 110 29 ls (.int x :: .ref k :: st) h = if kd k = 9 ∧ x.toNatClampNeg < ln k ∧ 0 ≤ x then ex 110 30 ls (.int (h k x.toNatClampNeg) :: st) h else none := x_iald hc_110 dX8_sends_29 rfl
theorem x_110_30 {ls st : List Value} {h : Hp} {k : Nat} {x u : Int32} : ex 110 30 ls (.int u :: .int x :: .ref k :: st) h = if kd k = 9 ∧ x.toNatClampNeg < ln k ∧ 0 ≤ x then ex 110 31 ls st (hu h k x.toNatClampNeg u) else none := x_iast hc_110 dX8_sends_30 rfl
theorem x_110_31 {ls st : List Value} {h : Hp}  : ex 110 31 ls (st) h = gA (ldA ls 0) 110 32 ls st h := x_aload_n hc_110 dX8_sends_31 rfl rfl
theorem x_110_32 {ls st : List Value} {h : Hp} {k : Nat} : ex 110 32 ls (.ref k :: st) h = if kd k = 8 then ex 110 35 ls (vl h k 28 :: st) h else none := x_getf hc_110 dX8_sends_32 rfl fr_8_72
theorem x_110_35 {ls st : List Value} {h : Hp}  : ex 110 35 ls (st) h = gI (ldI ls 1) 110 36 ls st h := x_iload_n hc_110 dX8_sends_35 rfl rfl
theorem x_110_36 {ls st : List Value} {h : Hp}  : ex 110 36 ls (st) h = ex 110 37 ls (.int (1) :: st) h := x_iconst hc_110 dX8_sends_36 rfl (by decide)
theorem x_110_37 {ls st : List Value} {h : Hp} {k : Nat} {x u : Int32} : ex 110 37 ls (.int u :: .int x :: .ref k :: st) h = if (kd k = 10 ∧ x.toNatClampNeg < ln k ∧ 0 ≤ x) ∧ (u = 0 ∨ u = 1) then ex 110 38 ls st (hu h k x.toNatClampNeg u) else none := x_zast hc_110 dX8_sends_37 rfl
theorem x_110_38 {ls st : List Value} {h : Hp}  : ex 110 38 ls (st) h = ex 110 39 ls (.int (0) :: st) h := x_iconst hc_110 dX8_sends_38 rfl (by decide)
theorem x_110_39 {ls st : List Value} {h : Hp} {x : Int32} : ex 110 39 ls (.int x :: st) h = ex 110 40 (ls.set 3 (.int x)) st h := x_istore_n hc_110 dX8_sends_39 rfl rfl (by decide)
theorem x_110_40 {ls st : List Value} {h : Hp}  : ex 110 40 ls (st) h = gI (ldI ls 3) 110 41 ls st h := x_iload_n hc_110 dX8_sends_40 rfl rfl
theorem x_110_41 {ls st : List Value} {h : Hp}  : ex 110 41 ls (st) h = ex 110 42 ls (.int (3) :: st) h := x_iconst hc_110 dX8_sends_41 rfl (by decide)
theorem x_110_42 {ls st : List Value} {h : Hp} {x z : Int32} : ex 110 42 ls (.int z :: .int x :: st) h = if x < z then ex 110 45 ls st h else ex 110 62 ls st h := x_icmp_ge hc_110 dX8_sends_42 rfl (by decide)
theorem x_110_45 {ls st : List Value} {h : Hp}  : ex 110 45 ls (st) h = gA (ldA ls 0) 110 46 ls st h := x_aload_n hc_110 dX8_sends_45 rfl rfl
theorem x_110_46 {ls st : List Value} {h : Hp} {k : Nat} : ex 110 46 ls (.ref k :: st) h = if kd k = 8 then ex 110 49 ls (vl h k 29 :: st) h else none := x_getf hc_110 dX8_sends_46 rfl fr_8_75
theorem x_110_49 {ls st : List Value} {h : Hp}  : ex 110 49 ls (st) h = ex 110 50 ls (.int (3) :: st) h := x_iconst hc_110 dX8_sends_49 rfl (by decide)
theorem x_110_50 {ls st : List Value} {h : Hp}  : ex 110 50 ls (st) h = gI (ldI ls 1) 110 51 ls st h := x_iload_n hc_110 dX8_sends_50 rfl rfl
theorem x_110_51 {ls st : List Value} {h : Hp} {a b : Int32} : ex 110 51 ls (.int b :: .int a :: st) h = ex 110 52 ls (.int (a * b) :: st) h := x_imul hc_110 dX8_sends_51 rfl
theorem x_110_52 {ls st : List Value} {h : Hp}  : ex 110 52 ls (st) h = gI (ldI ls 3) 110 53 ls st h := x_iload_n hc_110 dX8_sends_52 rfl rfl
theorem x_110_53 {ls st : List Value} {h : Hp} {a b : Int32} : ex 110 53 ls (.int b :: .int a :: st) h = ex 110 54 ls (.int (a + b) :: st) h := x_iadd hc_110 dX8_sends_53 rfl
theorem x_110_54 {ls st : List Value} {h : Hp}  : ex 110 54 ls (st) h = ex 110 55 ls (.int (0) :: st) h := x_iconst hc_110 dX8_sends_54 rfl (by decide)
theorem x_110_55 {ls st : List Value} {h : Hp} {k : Nat} {x u : Int32} : ex 110 55 ls (.int u :: .int x :: .ref k :: st) h = if kd k = 9 ∧ x.toNatClampNeg < ln k ∧ 0 ≤ x then ex 110 56 ls st (hu h k x.toNatClampNeg u) else none := x_iast hc_110 dX8_sends_55 rfl
theorem x_110_56 {ls st : List Value} {h : Hp}  : ex 110 56 ls (st) h = gN (ldI ls 3) 110 59 ls 3 (1) st h := x_iinc hc_110 dX8_sends_56 rfl (by decide) (by decide)
theorem x_110_59 {ls st : List Value} {h : Hp}  : ex 110 59 ls (st) h = ex 110 40 ls st h := x_goto hc_110 dX8_sends_59 (by decide)
theorem x_110_62 {ls : List Value} {h : Hp} : ex 110 62 ls [] h = some (none, h) := x_vret hc_110 dX8_sends_62 rfl
theorem x_111_0 {ls st : List Value} {h : Hp}  : ex 111 0 ls (st) h = ex 111 1 ls (.int (0) :: st) h := x_iconst hc_111 dX8_legs_0 rfl (by decide)
theorem x_111_1 {ls st : List Value} {h : Hp} {x : Int32} : ex 111 1 ls (.int x :: st) h = ex 111 2 (ls.set 3 (.int x)) st h := x_istore_n hc_111 dX8_legs_1 rfl rfl (by decide)
theorem x_111_2 {ls st : List Value} {h : Hp}  : ex 111 2 ls (st) h = gI (ldI ls 1) 111 3 ls st h := x_iload_n hc_111 dX8_legs_2 rfl rfl
theorem x_111_3 {ls st : List Value} {h : Hp}  : ex 111 3 ls (st) h = gI (ldI ls 2) 111 4 ls st h := x_iload_n hc_111 dX8_legs_3 rfl rfl
theorem x_111_4 {ls st : List Value} {h : Hp} {x z : Int32} : ex 111 4 ls (.int z :: .int x :: st) h = if x < z then ex 111 7 ls st h else ex 111 11 ls st h := x_icmp_ge hc_111 dX8_legs_4 rfl (by decide)
theorem x_111_7 {ls st : List Value} {h : Hp}  : ex 111 7 ls (st) h = gI (ldI ls 1) 111 8 ls st h := x_iload_n hc_111 dX8_legs_7 rfl rfl
theorem x_111_8 {ls st : List Value} {h : Hp}  : ex 111 8 ls (st) h = ex 111 12 ls st h := x_goto hc_111 dX8_legs_8 (by decide)
theorem x_111_11 {ls st : List Value} {h : Hp}  : ex 111 11 ls (st) h = gI (ldI ls 2) 111 12 ls st h := x_iload_n hc_111 dX8_legs_11 rfl rfl
theorem x_111_12 {ls st : List Value} {h : Hp} {x : Int32} : ex 111 12 ls (.int x :: st) h = ex 111 14 (ls.set 4 (.int x)) st h := x_istore hc_111 dX8_legs_12 rfl (by decide)
theorem x_111_14 {ls st : List Value} {h : Hp}  : ex 111 14 ls (st) h = gI (ldI ls 4) 111 16 ls st h := x_iload hc_111 dX8_legs_14 rfl
theorem x_111_16 {ls st : List Value} {h : Hp}  : ex 111 16 ls (st) h = gI (ldI ls 1) 111 17 ls st h := x_iload_n hc_111 dX8_legs_16 rfl rfl
theorem x_111_17 {ls st : List Value} {h : Hp}  : ex 111 17 ls (st) h = gI (ldI ls 2) 111 18 ls st h := x_iload_n hc_111 dX8_legs_17 rfl rfl
theorem x_111_18 {ls st : List Value} {h : Hp} {x z : Int32} : ex 111 18 ls (.int z :: .int x :: st) h = if x < z then ex 111 21 ls st h else ex 111 25 ls st h := x_icmp_ge hc_111 dX8_legs_18 rfl (by decide)
theorem x_111_21 {ls st : List Value} {h : Hp}  : ex 111 21 ls (st) h = gI (ldI ls 2) 111 22 ls st h := x_iload_n hc_111 dX8_legs_21 rfl rfl
theorem x_111_22 {ls st : List Value} {h : Hp}  : ex 111 22 ls (st) h = ex 111 26 ls st h := x_goto hc_111 dX8_legs_22 (by decide)
theorem x_111_25 {ls st : List Value} {h : Hp}  : ex 111 25 ls (st) h = gI (ldI ls 1) 111 26 ls st h := x_iload_n hc_111 dX8_legs_25 rfl rfl
theorem x_111_26 {ls st : List Value} {h : Hp} {x z : Int32} : ex 111 26 ls (.int z :: .int x :: st) h = if x < z then ex 111 29 ls st h else ex 111 45 ls st h := x_icmp_ge hc_111 dX8_legs_26 rfl (by decide)
theorem x_111_29 {ls st : List Value} {h : Hp}  : ex 111 29 ls (st) h = gI (ldI ls 3) 111 30 ls st h := x_iload_n hc_111 dX8_legs_29 rfl rfl
theorem x_111_30 {ls st : List Value} {h : Hp}  : ex 111 30 ls (st) h = gA (ldA ls 0) 111 31 ls st h := x_aload_n hc_111 dX8_legs_30 rfl rfl
theorem x_111_31 {ls st : List Value} {h : Hp} {k : Nat} : ex 111 31 ls (.ref k :: st) h = if kd k = 8 then ex 111 34 ls (vl h k 9 :: st) h else none := x_getf hc_111 dX8_legs_31 rfl fr_8_13
theorem x_111_34 {ls st : List Value} {h : Hp}  : ex 111 34 ls (st) h = gI (ldI ls 4) 111 36 ls st h := x_iload hc_111 dX8_legs_34 rfl
theorem x_111_36 {ls st : List Value} {h : Hp} {k : Nat} {x : Int32} : ex 111 36 ls (.int x :: .ref k :: st) h = if kd k = 9 ∧ x.toNatClampNeg < ln k ∧ 0 ≤ x then ex 111 37 ls (.int (h k x.toNatClampNeg) :: st) h else none := x_iald hc_111 dX8_legs_36 rfl
theorem x_111_37 {ls st : List Value} {h : Hp} {a b : Int32} : ex 111 37 ls (.int b :: .int a :: st) h = ex 111 38 ls (.int (a + b) :: st) h := x_iadd hc_111 dX8_legs_37 rfl
theorem x_111_38 {ls st : List Value} {h : Hp} {x : Int32} : ex 111 38 ls (.int x :: st) h = ex 111 39 (ls.set 3 (.int x)) st h := x_istore_n hc_111 dX8_legs_38 rfl rfl (by decide)
theorem x_111_39 {ls st : List Value} {h : Hp}  : ex 111 39 ls (st) h = gN (ldI ls 4) 111 42 ls 4 (1) st h := x_iinc hc_111 dX8_legs_39 rfl (by decide) (by decide)
theorem x_111_42 {ls st : List Value} {h : Hp}  : ex 111 42 ls (st) h = ex 111 14 ls st h := x_goto hc_111 dX8_legs_42 (by decide)
theorem x_111_45 {ls st : List Value} {h : Hp}  : ex 111 45 ls (st) h = gI (ldI ls 3) 111 46 ls st h := x_iload_n hc_111 dX8_legs_45 rfl rfl
theorem x_111_46 {ls : List Value} {h : Hp} {v : Int32} : ex 111 46 ls [.int v] h = some (some (.int v), h) := x_iret hc_111 dX8_legs_46 rfl
theorem x_112_0 {ls st : List Value} {h : Hp}  : ex 112 0 ls (st) h = gA (ldA ls 0) 112 1 ls st h := x_aload_n hc_112 dX8_turn_0 rfl rfl
theorem x_112_1 {ls st : List Value} {h : Hp}  : ex 112 1 ls (st) h = gI (ldI ls 1) 112 2 ls st h := x_iload_n hc_112 dX8_turn_1 rfl rfl
theorem x_112_2 {ls st : List Value} {h : Hp} {k : Nat} {a0 : Int32} : ex 112 2 ls (.int a0 :: .ref k :: st) h = if kd k = 8 ∧ st.length ≤ 4 then gC (ex 105 0 [.ref k, .int a0] [] h) 112 5 ls st else none := x_callV (as := [.int a0]) hc_112 dX8_turn_2 rfl mr_8_168 rfl rfl rfl (by decide) (by decide)
theorem x_112_5 {ls st : List Value} {h : Hp} {x : Int32} : ex 112 5 ls (.int x :: st) h = if x = 0 then ex 112 16 ls st h else ex 112 8 ls st h := x_if_eq hc_112 dX8_turn_5 rfl (by decide)
theorem x_112_8 {ls st : List Value} {h : Hp}  : ex 112 8 ls (st) h = gA (ldA ls 0) 112 9 ls st h := x_aload_n hc_112 dX8_turn_8 rfl rfl
theorem x_112_9 {ls st : List Value} {h : Hp}  : ex 112 9 ls (st) h = gI (ldI ls 2) 112 10 ls st h := x_iload_n hc_112 dX8_turn_9 rfl rfl
theorem x_112_10 {ls st : List Value} {h : Hp} {k : Nat} {a0 : Int32} : ex 112 10 ls (.int a0 :: .ref k :: st) h = if kd k = 8 ∧ st.length ≤ 4 then gC (ex 94 0 [.ref k, .int a0] [] h) 112 13 ls st else none := x_callV (as := [.int a0]) hc_112 dX8_turn_10 rfl mr_8_152 rfl rfl rfl (by decide) (by decide)
theorem x_112_13 {ls st : List Value} {h : Hp} {x : Int32} : ex 112 13 ls (.int x :: st) h = if x = 0 then ex 112 16 ls st h else ex 112 23 ls st h := x_if_ne hc_112 dX8_turn_13 rfl (by decide)
theorem x_112_16 {ls st : List Value} {h : Hp}  : ex 112 16 ls (st) h = gA (ldA ls 0) 112 17 ls st h := x_aload_n hc_112 dX8_turn_16 rfl rfl
theorem x_112_17 {ls st : List Value} {h : Hp}  : ex 112 17 ls (st) h = ex 112 19 ls (.int (-3) :: st) h := x_bipush hc_112 dX8_turn_17 rfl (by decide)
theorem x_112_19 {ls st : List Value} {h : Hp} {k : Nat} {a0 : Int32} : ex 112 19 ls (.int a0 :: .ref k :: st) h = if kd k = 8 ∧ st.length ≤ 4 then gC (ex 92 0 [.ref k, .int a0] [] h) 112 22 ls st else none := x_callV (as := [.int a0]) hc_112 dX8_turn_19 rfl mr_8_148 rfl rfl rfl (by decide) (by decide)
theorem x_112_22 {ls : List Value} {h : Hp} {v : Int32} : ex 112 22 ls [.int v] h = some (some (.int v), h) := x_iret hc_112 dX8_turn_22 rfl
theorem x_112_23 {ls st : List Value} {h : Hp}  : ex 112 23 ls (st) h = gA (ldA ls 0) 112 24 ls st h := x_aload_n hc_112 dX8_turn_23 rfl rfl
theorem x_112_24 {ls st : List Value} {h : Hp}  : ex 112 24 ls (st) h = gI (ldI ls 1) 112 25 ls st h := x_iload_n hc_112 dX8_turn_24 rfl rfl
theorem x_112_25 {ls st : List Value} {h : Hp}  : ex 112 25 ls (st) h = gI (ldI ls 2) 112 26 ls st h := x_iload_n hc_112 dX8_turn_25 rfl rfl
theorem x_112_26 {ls st : List Value} {h : Hp} {k : Nat} {a0 : Int32} {a1 : Int32} : ex 112 26 ls (.int a1 :: .int a0 :: .ref k :: st) h = if kd k = 8 ∧ st.length ≤ 4 then gC (ex 113 0 [.ref k, .int a0, .int a1] [] h) 112 29 ls st else none := x_callV (as := [.int a0, .int a1]) hc_112 dX8_turn_26 rfl mr_8_181 rfl rfl rfl (by decide) (by decide)
theorem x_112_29 {ls st : List Value} {h : Hp} {x : Int32} : ex 112 29 ls (.int x :: st) h = if x = 0 then ex 112 32 ls st h else ex 112 39 ls st h := x_if_ne hc_112 dX8_turn_29 rfl (by decide)
theorem x_112_32 {ls st : List Value} {h : Hp}  : ex 112 32 ls (st) h = gA (ldA ls 0) 112 33 ls st h := x_aload_n hc_112 dX8_turn_32 rfl rfl
theorem x_112_33 {ls st : List Value} {h : Hp}  : ex 112 33 ls (st) h = ex 112 35 ls (.int (-7) :: st) h := x_bipush hc_112 dX8_turn_33 rfl (by decide)
theorem x_112_35 {ls st : List Value} {h : Hp} {k : Nat} {a0 : Int32} : ex 112 35 ls (.int a0 :: .ref k :: st) h = if kd k = 8 ∧ st.length ≤ 4 then gC (ex 92 0 [.ref k, .int a0] [] h) 112 38 ls st else none := x_callV (as := [.int a0]) hc_112 dX8_turn_35 rfl mr_8_148 rfl rfl rfl (by decide) (by decide)
theorem x_112_38 {ls : List Value} {h : Hp} {v : Int32} : ex 112 38 ls [.int v] h = some (some (.int v), h) := x_iret hc_112 dX8_turn_38 rfl
theorem x_112_39 {ls st : List Value} {h : Hp}  : ex 112 39 ls (st) h = gA (ldA ls 0) 112 40 ls st h := x_aload_n hc_112 dX8_turn_39 rfl rfl
theorem x_112_40 {ls st : List Value} {h : Hp} {k : Nat} : ex 112 40 ls (.ref k :: st) h = if kd k = 8 then ex 112 43 ls (vl h k 23 :: st) h else none := x_getf hc_112 dX8_turn_40 rfl fr_8_56
theorem x_112_43 {ls st : List Value} {h : Hp}  : ex 112 43 ls (st) h = gI (ldI ls 1) 112 44 ls st h := x_iload_n hc_112 dX8_turn_43 rfl rfl
theorem x_112_44 {ls st : List Value} {h : Hp}  : ex 112 44 ls (st) h = gI (ldI ls 2) 112 45 ls st h := x_iload_n hc_112 dX8_turn_44 rfl rfl
theorem x_112_45 {ls st : List Value} {h : Hp} {k : Nat} {x u : Int32} : ex 112 45 ls (.int u :: .int x :: .ref k :: st) h = if kd k = 9 ∧ x.toNatClampNeg < ln k ∧ 0 ≤ x then ex 112 46 ls st (hu h k x.toNatClampNeg u) else none := x_iast hc_112 dX8_turn_45 rfl
theorem x_112_46 {ls st : List Value} {h : Hp}  : ex 112 46 ls (st) h = gA (ldA ls 0) 112 47 ls st h := x_aload_n hc_112 dX8_turn_46 rfl rfl
theorem x_112_47 {ls st : List Value} {h : Hp} {k : Nat} : ex 112 47 ls (.ref k :: st) h = if kd k = 8 then ex 112 50 ls (vl h k 22 :: st) h else none := x_getf hc_112 dX8_turn_47 rfl fr_8_53
theorem x_112_50 {ls st : List Value} {h : Hp}  : ex 112 50 ls (st) h = gI (ldI ls 1) 112 51 ls st h := x_iload_n hc_112 dX8_turn_50 rfl rfl
theorem x_112_51 {ls st : List Value} {h : Hp} {k : Nat} {x : Int32} : ex 112 51 ls (.int x :: .ref k :: st) h = if kd k = 9 ∧ x.toNatClampNeg < ln k ∧ 0 ≤ x then ex 112 52 ls (.int (h k x.toNatClampNeg) :: st) h else none := x_iald hc_112 dX8_turn_51 rfl
theorem x_112_52 {ls st : List Value} {h : Hp} {x : Int32} : ex 112 52 ls (.int x :: st) h = if x = 0 then ex 112 55 ls st h else ex 112 69 ls st h := x_if_ne hc_112 dX8_turn_52 rfl (by decide)
theorem x_112_55 {ls st : List Value} {h : Hp}  : ex 112 55 ls (st) h = gA (ldA ls 0) 112 56 ls st h := x_aload_n hc_112 dX8_turn_55 rfl rfl
theorem x_112_56 {ls st : List Value} {h : Hp}  : ex 112 56 ls (st) h = gA (ldA ls 0) 112 57 ls st h := x_aload_n hc_112 dX8_turn_56 rfl rfl
theorem x_112_57 {ls st : List Value} {h : Hp} {k : Nat} : ex 112 57 ls (.ref k :: st) h = if kd k = 8 then ex 112 60 ls (vl h k 20 :: st) h else none := x_getf hc_112 dX8_turn_57 rfl fr_8_47
theorem x_112_60 {ls st : List Value} {h : Hp}  : ex 112 60 ls (st) h = gI (ldI ls 1) 112 61 ls st h := x_iload_n hc_112 dX8_turn_60 rfl rfl
theorem x_112_61 {ls st : List Value} {h : Hp} {k : Nat} {x : Int32} : ex 112 61 ls (.int x :: .ref k :: st) h = if kd k = 9 ∧ x.toNatClampNeg < ln k ∧ 0 ≤ x then ex 112 62 ls (.int (h k x.toNatClampNeg) :: st) h else none := x_iald hc_112 dX8_turn_61 rfl
theorem x_112_62 {ls st : List Value} {h : Hp}  : ex 112 62 ls (st) h = gI (ldI ls 2) 112 63 ls st h := x_iload_n hc_112 dX8_turn_62 rfl rfl
theorem x_112_63 {ls st : List Value} {h : Hp} {k : Nat} {a0 : Int32} {a1 : Int32} : ex 112 63 ls (.int a1 :: .int a0 :: .ref k :: st) h = if kd k = 8 ∧ st.length ≤ 4 then gC (ex 111 0 [.ref k, .int a0, .int a1, .null, .null] [] h) 112 66 ls st else none := x_callV (as := [.int a0, .int a1]) hc_112 dX8_turn_63 rfl mr_8_178 rfl rfl rfl (by decide) (by decide)
theorem x_112_66 {ls st : List Value} {h : Hp}  : ex 112 66 ls (st) h = ex 112 87 ls st h := x_goto hc_112 dX8_turn_66 (by decide)
theorem x_112_69 {ls st : List Value} {h : Hp}  : ex 112 69 ls (st) h = gA (ldA ls 0) 112 70 ls st h := x_aload_n hc_112 dX8_turn_69 rfl rfl
theorem x_112_70 {ls st : List Value} {h : Hp} {k : Nat} : ex 112 70 ls (.ref k :: st) h = if kd k = 8 then ex 112 73 ls (vl h k 22 :: st) h else none := x_getf hc_112 dX8_turn_70 rfl fr_8_53
theorem x_112_73 {ls st : List Value} {h : Hp}  : ex 112 73 ls (st) h = gI (ldI ls 1) 112 74 ls st h := x_iload_n hc_112 dX8_turn_73 rfl rfl
theorem x_112_74 {ls st : List Value} {h : Hp} {k : Nat} {x : Int32} : ex 112 74 ls (.int x :: .ref k :: st) h = if kd k = 9 ∧ x.toNatClampNeg < ln k ∧ 0 ≤ x then ex 112 75 ls (.int (h k x.toNatClampNeg) :: st) h else none := x_iald hc_112 dX8_turn_74 rfl
theorem x_112_75 {ls st : List Value} {h : Hp}  : ex 112 75 ls (st) h = gA (ldA ls 0) 112 76 ls st h := x_aload_n hc_112 dX8_turn_75 rfl rfl
theorem x_112_76 {ls st : List Value} {h : Hp}  : ex 112 76 ls (st) h = gA (ldA ls 0) 112 77 ls st h := x_aload_n hc_112 dX8_turn_76 rfl rfl
theorem x_112_77 {ls st : List Value} {h : Hp} {k : Nat} : ex 112 77 ls (.ref k :: st) h = if kd k = 8 then ex 112 80 ls (vl h k 21 :: st) h else none := x_getf hc_112 dX8_turn_77 rfl fr_8_50
theorem x_112_80 {ls st : List Value} {h : Hp}  : ex 112 80 ls (st) h = gI (ldI ls 1) 112 81 ls st h := x_iload_n hc_112 dX8_turn_80 rfl rfl
theorem x_112_81 {ls st : List Value} {h : Hp} {k : Nat} {x : Int32} : ex 112 81 ls (.int x :: .ref k :: st) h = if kd k = 9 ∧ x.toNatClampNeg < ln k ∧ 0 ≤ x then ex 112 82 ls (.int (h k x.toNatClampNeg) :: st) h else none := x_iald hc_112 dX8_turn_81 rfl
theorem x_112_82 {ls st : List Value} {h : Hp}  : ex 112 82 ls (st) h = gI (ldI ls 2) 112 83 ls st h := x_iload_n hc_112 dX8_turn_82 rfl rfl
theorem x_112_83 {ls st : List Value} {h : Hp} {k : Nat} {a0 : Int32} {a1 : Int32} : ex 112 83 ls (.int a1 :: .int a0 :: .ref k :: st) h = if kd k = 8 ∧ st.length ≤ 4 then gC (ex 111 0 [.ref k, .int a0, .int a1, .null, .null] [] h) 112 86 ls st else none := x_callV (as := [.int a0, .int a1]) hc_112 dX8_turn_83 rfl mr_8_178 rfl rfl rfl (by decide) (by decide)
theorem x_112_86 {ls st : List Value} {h : Hp} {a b : Int32} : ex 112 86 ls (.int b :: .int a :: st) h = ex 112 87 ls (.int (a + b) :: st) h := x_iadd hc_112 dX8_turn_86 rfl
theorem x_112_87 {ls : List Value} {h : Hp} {v : Int32} : ex 112 87 ls [.int v] h = some (some (.int v), h) := x_iret hc_112 dX8_turn_87 rfl
theorem x_113_0 {ls st : List Value} {h : Hp}  : ex 113 0 ls (st) h = gA (ldA ls 0) 113 1 ls st h := x_aload_n hc_113 dX8_mayTurn_0 rfl rfl
theorem x_113_1 {ls st : List Value} {h : Hp} {k : Nat} : ex 113 1 ls (.ref k :: st) h = if kd k = 8 then ex 113 4 ls (vl h k 23 :: st) h else none := x_getf hc_113 dX8_mayTurn_1 rfl fr_8_56
theorem x_113_4 {ls st : List Value} {h : Hp}  : ex 113 4 ls (st) h = gI (ldI ls 1) 113 5 ls st h := x_iload_n hc_113 dX8_mayTurn_4 rfl rfl
theorem x_113_5 {ls st : List Value} {h : Hp} {k : Nat} {x : Int32} : ex 113 5 ls (.int x :: .ref k :: st) h = if kd k = 9 ∧ x.toNatClampNeg < ln k ∧ 0 ≤ x then ex 113 6 ls (.int (h k x.toNatClampNeg) :: st) h else none := x_iald hc_113 dX8_mayTurn_5 rfl
theorem x_113_6 {ls st : List Value} {h : Hp}  : ex 113 6 ls (st) h = ex 113 7 ls (.int (-1) :: st) h := x_iconst hc_113 dX8_mayTurn_6 rfl (by decide)
theorem x_113_7 {ls st : List Value} {h : Hp} {x z : Int32} : ex 113 7 ls (.int z :: .int x :: st) h = if x = z then ex 113 10 ls st h else ex 113 12 ls st h := x_icmp_ne hc_113 dX8_mayTurn_7 rfl (by decide)
theorem x_113_10 {ls st : List Value} {h : Hp}  : ex 113 10 ls (st) h = ex 113 11 ls (.int (0) :: st) h := x_iconst hc_113 dX8_mayTurn_10 rfl (by decide)
theorem x_113_11 {ls : List Value} {h : Hp} {v : Int32} : ex 113 11 ls [.int v] h = if v = 0 ∨ v = 1 then some (some (.int v), h) else none := x_zret hc_113 dX8_mayTurn_11 rfl
theorem x_113_12 {ls st : List Value} {h : Hp}  : ex 113 12 ls (st) h = gA (ldA ls 0) 113 13 ls st h := x_aload_n hc_113 dX8_mayTurn_12 rfl rfl
theorem x_113_13 {ls st : List Value} {h : Hp} {k : Nat} : ex 113 13 ls (.ref k :: st) h = if kd k = 8 then ex 113 16 ls (vl h k 22 :: st) h else none := x_getf hc_113 dX8_mayTurn_13 rfl fr_8_53
theorem x_113_16 {ls st : List Value} {h : Hp}  : ex 113 16 ls (st) h = gI (ldI ls 1) 113 17 ls st h := x_iload_n hc_113 dX8_mayTurn_16 rfl rfl
theorem x_113_17 {ls st : List Value} {h : Hp} {k : Nat} {x : Int32} : ex 113 17 ls (.int x :: .ref k :: st) h = if kd k = 9 ∧ x.toNatClampNeg < ln k ∧ 0 ≤ x then ex 113 18 ls (.int (h k x.toNatClampNeg) :: st) h else none := x_iald hc_113 dX8_mayTurn_17 rfl
theorem x_113_18 {ls st : List Value} {h : Hp} {x : Int32} : ex 113 18 ls (.int x :: st) h = if x = 0 then ex 113 21 ls st h else ex 113 37 ls st h := x_if_ne hc_113 dX8_mayTurn_18 rfl (by decide)
theorem x_113_21 {ls st : List Value} {h : Hp}  : ex 113 21 ls (st) h = gI (ldI ls 2) 113 22 ls st h := x_iload_n hc_113 dX8_mayTurn_21 rfl rfl
theorem x_113_22 {ls st : List Value} {h : Hp}  : ex 113 22 ls (st) h = gA (ldA ls 0) 113 23 ls st h := x_aload_n hc_113 dX8_mayTurn_22 rfl rfl
theorem x_113_23 {ls st : List Value} {h : Hp} {k : Nat} : ex 113 23 ls (.ref k :: st) h = if kd k = 8 then ex 113 26 ls (vl h k 20 :: st) h else none := x_getf hc_113 dX8_mayTurn_23 rfl fr_8_47
theorem x_113_26 {ls st : List Value} {h : Hp}  : ex 113 26 ls (st) h = gI (ldI ls 1) 113 27 ls st h := x_iload_n hc_113 dX8_mayTurn_26 rfl rfl
theorem x_113_27 {ls st : List Value} {h : Hp} {k : Nat} {x : Int32} : ex 113 27 ls (.int x :: .ref k :: st) h = if kd k = 9 ∧ x.toNatClampNeg < ln k ∧ 0 ≤ x then ex 113 28 ls (.int (h k x.toNatClampNeg) :: st) h else none := x_iald hc_113 dX8_mayTurn_27 rfl
theorem x_113_28 {ls st : List Value} {h : Hp} {x z : Int32} : ex 113 28 ls (.int z :: .int x :: st) h = if x = z then ex 113 35 ls st h else ex 113 31 ls st h := x_icmp_eq hc_113 dX8_mayTurn_28 rfl (by decide)
theorem x_113_31 {ls st : List Value} {h : Hp}  : ex 113 31 ls (st) h = ex 113 32 ls (.int (1) :: st) h := x_iconst hc_113 dX8_mayTurn_31 rfl (by decide)
theorem x_113_32 {ls st : List Value} {h : Hp}  : ex 113 32 ls (st) h = ex 113 36 ls st h := x_goto hc_113 dX8_mayTurn_32 (by decide)
theorem x_113_35 {ls st : List Value} {h : Hp}  : ex 113 35 ls (st) h = ex 113 36 ls (.int (0) :: st) h := x_iconst hc_113 dX8_mayTurn_35 rfl (by decide)
theorem x_113_36 {ls : List Value} {h : Hp} {v : Int32} : ex 113 36 ls [.int v] h = if v = 0 ∨ v = 1 then some (some (.int v), h) else none := x_zret hc_113 dX8_mayTurn_36 rfl
theorem x_113_37 {ls st : List Value} {h : Hp}  : ex 113 37 ls (st) h = gA (ldA ls 0) 113 38 ls st h := x_aload_n hc_113 dX8_mayTurn_37 rfl rfl
theorem x_113_38 {ls st : List Value} {h : Hp} {k : Nat} : ex 113 38 ls (.ref k :: st) h = if kd k = 8 then ex 113 41 ls (vl h k 21 :: st) h else none := x_getf hc_113 dX8_mayTurn_38 rfl fr_8_50
theorem x_113_41 {ls st : List Value} {h : Hp}  : ex 113 41 ls (st) h = gI (ldI ls 1) 113 42 ls st h := x_iload_n hc_113 dX8_mayTurn_41 rfl rfl
theorem x_113_42 {ls st : List Value} {h : Hp} {k : Nat} {x : Int32} : ex 113 42 ls (.int x :: .ref k :: st) h = if kd k = 9 ∧ x.toNatClampNeg < ln k ∧ 0 ≤ x then ex 113 43 ls (.int (h k x.toNatClampNeg) :: st) h else none := x_iald hc_113 dX8_mayTurn_42 rfl
theorem x_113_43 {ls st : List Value} {h : Hp}  : ex 113 43 ls (st) h = gA (ldA ls 0) 113 44 ls st h := x_aload_n hc_113 dX8_mayTurn_43 rfl rfl
theorem x_113_44 {ls st : List Value} {h : Hp} {k : Nat} : ex 113 44 ls (.ref k :: st) h = if kd k = 8 then ex 113 47 ls (vl h k 20 :: st) h else none := x_getf hc_113 dX8_mayTurn_44 rfl fr_8_47
theorem x_113_47 {ls st : List Value} {h : Hp}  : ex 113 47 ls (st) h = gI (ldI ls 1) 113 48 ls st h := x_iload_n hc_113 dX8_mayTurn_47 rfl rfl
theorem x_113_48 {ls st : List Value} {h : Hp} {k : Nat} {x : Int32} : ex 113 48 ls (.int x :: .ref k :: st) h = if kd k = 9 ∧ x.toNatClampNeg < ln k ∧ 0 ≤ x then ex 113 49 ls (.int (h k x.toNatClampNeg) :: st) h else none := x_iald hc_113 dX8_mayTurn_48 rfl
theorem x_113_49 {ls st : List Value} {h : Hp} {x z : Int32} : ex 113 49 ls (.int z :: .int x :: st) h = if z < x then ex 113 52 ls st h else ex 113 70 ls st h := x_icmp_le hc_113 dX8_mayTurn_49 rfl (by decide)
theorem x_113_52 {ls st : List Value} {h : Hp}  : ex 113 52 ls (st) h = gI (ldI ls 2) 113 53 ls st h := x_iload_n hc_113 dX8_mayTurn_52 rfl rfl
theorem x_113_53 {ls st : List Value} {h : Hp}  : ex 113 53 ls (st) h = gA (ldA ls 0) 113 54 ls st h := x_aload_n hc_113 dX8_mayTurn_53 rfl rfl
theorem x_113_54 {ls st : List Value} {h : Hp} {k : Nat} : ex 113 54 ls (.ref k :: st) h = if kd k = 8 then ex 113 57 ls (vl h k 21 :: st) h else none := x_getf hc_113 dX8_mayTurn_54 rfl fr_8_50
theorem x_113_57 {ls st : List Value} {h : Hp}  : ex 113 57 ls (st) h = gI (ldI ls 1) 113 58 ls st h := x_iload_n hc_113 dX8_mayTurn_57 rfl rfl
theorem x_113_58 {ls st : List Value} {h : Hp} {k : Nat} {x : Int32} : ex 113 58 ls (.int x :: .ref k :: st) h = if kd k = 9 ∧ x.toNatClampNeg < ln k ∧ 0 ≤ x then ex 113 59 ls (.int (h k x.toNatClampNeg) :: st) h else none := x_iald hc_113 dX8_mayTurn_58 rfl
theorem x_113_59 {ls st : List Value} {h : Hp} {x z : Int32} : ex 113 59 ls (.int z :: .int x :: st) h = if x < z then ex 113 66 ls st h else ex 113 62 ls st h := x_icmp_lt hc_113 dX8_mayTurn_59 rfl (by decide)
theorem x_113_62 {ls st : List Value} {h : Hp}  : ex 113 62 ls (st) h = ex 113 63 ls (.int (1) :: st) h := x_iconst hc_113 dX8_mayTurn_62 rfl (by decide)
theorem x_113_63 {ls st : List Value} {h : Hp}  : ex 113 63 ls (st) h = ex 113 85 ls st h := x_goto hc_113 dX8_mayTurn_63 (by decide)
theorem x_113_66 {ls st : List Value} {h : Hp}  : ex 113 66 ls (st) h = ex 113 67 ls (.int (0) :: st) h := x_iconst hc_113 dX8_mayTurn_66 rfl (by decide)
theorem x_113_67 {ls st : List Value} {h : Hp}  : ex 113 67 ls (st) h = ex 113 85 ls st h := x_goto hc_113 dX8_mayTurn_67 (by decide)
theorem x_113_70 {ls st : List Value} {h : Hp}  : ex 113 70 ls (st) h = gI (ldI ls 2) 113 71 ls st h := x_iload_n hc_113 dX8_mayTurn_70 rfl rfl
theorem x_113_71 {ls st : List Value} {h : Hp}  : ex 113 71 ls (st) h = gA (ldA ls 0) 113 72 ls st h := x_aload_n hc_113 dX8_mayTurn_71 rfl rfl
theorem x_113_72 {ls st : List Value} {h : Hp} {k : Nat} : ex 113 72 ls (.ref k :: st) h = if kd k = 8 then ex 113 75 ls (vl h k 21 :: st) h else none := x_getf hc_113 dX8_mayTurn_72 rfl fr_8_50
theorem x_113_75 {ls st : List Value} {h : Hp}  : ex 113 75 ls (st) h = gI (ldI ls 1) 113 76 ls st h := x_iload_n hc_113 dX8_mayTurn_75 rfl rfl
theorem x_113_76 {ls st : List Value} {h : Hp} {k : Nat} {x : Int32} : ex 113 76 ls (.int x :: .ref k :: st) h = if kd k = 9 ∧ x.toNatClampNeg < ln k ∧ 0 ≤ x then ex 113 77 ls (.int (h k x.toNatClampNeg) :: st) h else none := x_iald hc_113 dX8_mayTurn_76 rfl
theorem x_113_77 {ls st : List Value} {h : Hp} {x z : Int32} : ex 113 77 ls (.int z :: .int x :: st) h = if z < x then ex 113 84 ls st h else ex 113 80 ls st h := x_icmp_gt hc_113 dX8_mayTurn_77 rfl (by decide)
theorem x_113_80 {ls st : List Value} {h : Hp}  : ex 113 80 ls (st) h = ex 113 81 ls (.int (1) :: st) h := x_iconst hc_113 dX8_mayTurn_80 rfl (by decide)
theorem x_113_81 {ls st : List Value} {h : Hp}  : ex 113 81 ls (st) h = ex 113 85 ls st h := x_goto hc_113 dX8_mayTurn_81 (by decide)
theorem x_113_84 {ls st : List Value} {h : Hp}  : ex 113 84 ls (st) h = ex 113 85 ls (.int (0) :: st) h := x_iconst hc_113 dX8_mayTurn_84 rfl (by decide)
theorem x_113_85 {ls : List Value} {h : Hp} {v : Int32} : ex 113 85 ls [.int v] h = if v = 0 ∨ v = 1 then some (some (.int v), h) else none := x_zret hc_113 dX8_mayTurn_85 rfl
theorem x_114_0 {ls st : List Value} {h : Hp}  : ex 114 0 ls (st) h = gA (ldA ls 0) 114 1 ls st h := x_aload_n hc_114 dX8_late_0 rfl rfl
theorem x_114_1 {ls st : List Value} {h : Hp}  : ex 114 1 ls (st) h = gI (ldI ls 1) 114 2 ls st h := x_iload_n hc_114 dX8_late_1 rfl rfl
theorem x_114_2 {ls st : List Value} {h : Hp} {k : Nat} {a0 : Int32} : ex 114 2 ls (.int a0 :: .ref k :: st) h = if kd k = 8 ∧ st.length ≤ 4 then gC (ex 94 0 [.ref k, .int a0] [] h) 114 5 ls st else none := x_callV (as := [.int a0]) hc_114 dX8_late_2 rfl mr_8_152 rfl rfl rfl (by decide) (by decide)
theorem x_114_5 {ls st : List Value} {h : Hp} {x : Int32} : ex 114 5 ls (.int x :: st) h = if x = 0 then ex 114 8 ls st h else ex 114 15 ls st h := x_if_ne hc_114 dX8_late_5 rfl (by decide)
theorem x_114_8 {ls st : List Value} {h : Hp}  : ex 114 8 ls (st) h = gA (ldA ls 0) 114 9 ls st h := x_aload_n hc_114 dX8_late_8 rfl rfl
theorem x_114_9 {ls st : List Value} {h : Hp}  : ex 114 9 ls (st) h = ex 114 11 ls (.int (-3) :: st) h := x_bipush hc_114 dX8_late_9 rfl (by decide)
theorem x_114_11 {ls st : List Value} {h : Hp} {k : Nat} {a0 : Int32} : ex 114 11 ls (.int a0 :: .ref k :: st) h = if kd k = 8 ∧ st.length ≤ 4 then gC (ex 92 0 [.ref k, .int a0] [] h) 114 14 ls st else none := x_callV (as := [.int a0]) hc_114 dX8_late_11 rfl mr_8_148 rfl rfl rfl (by decide) (by decide)
theorem x_114_14 {ls : List Value} {h : Hp} {v : Int32} : ex 114 14 ls [.int v] h = some (some (.int v), h) := x_iret hc_114 dX8_late_14 rfl
theorem x_114_15 {ls st : List Value} {h : Hp}  : ex 114 15 ls (st) h = gI (ldI ls 2) 114 16 ls st h := x_iload_n hc_114 dX8_late_15 rfl rfl
theorem x_114_16 {ls st : List Value} {h : Hp} {x : Int32} : ex 114 16 ls (.int x :: st) h = if x < 0 then ex 114 25 ls st h else ex 114 19 ls st h := x_if_lt hc_114 dX8_late_16 rfl (by decide)
theorem x_114_19 {ls st : List Value} {h : Hp}  : ex 114 19 ls (st) h = gI (ldI ls 2) 114 20 ls st h := x_iload_n hc_114 dX8_late_19 rfl rfl
theorem x_114_20 {ls st : List Value} {h : Hp}  : ex 114 20 ls (st) h = ex 114 22 ls (.int (48) :: st) h := x_bipush hc_114 dX8_late_20 rfl (by decide)
theorem x_114_22 {ls st : List Value} {h : Hp} {x z : Int32} : ex 114 22 ls (.int z :: .int x :: st) h = if z < x then ex 114 25 ls st h else ex 114 32 ls st h := x_icmp_le hc_114 dX8_late_22 rfl (by decide)
theorem x_114_25 {ls st : List Value} {h : Hp}  : ex 114 25 ls (st) h = gA (ldA ls 0) 114 26 ls st h := x_aload_n hc_114 dX8_late_25 rfl rfl
theorem x_114_26 {ls st : List Value} {h : Hp}  : ex 114 26 ls (st) h = ex 114 28 ls (.int (-7) :: st) h := x_bipush hc_114 dX8_late_26 rfl (by decide)
theorem x_114_28 {ls st : List Value} {h : Hp} {k : Nat} {a0 : Int32} : ex 114 28 ls (.int a0 :: .ref k :: st) h = if kd k = 8 ∧ st.length ≤ 4 then gC (ex 92 0 [.ref k, .int a0] [] h) 114 31 ls st else none := x_callV (as := [.int a0]) hc_114 dX8_late_28 rfl mr_8_148 rfl rfl rfl (by decide) (by decide)
theorem x_114_31 {ls : List Value} {h : Hp} {v : Int32} : ex 114 31 ls [.int v] h = some (some (.int v), h) := x_iret hc_114 dX8_late_31 rfl
theorem x_114_32 {ls st : List Value} {h : Hp}  : ex 114 32 ls (st) h = gA (ldA ls 0) 114 33 ls st h := x_aload_n hc_114 dX8_late_32 rfl rfl
theorem x_114_33 {ls st : List Value} {h : Hp} {k : Nat} : ex 114 33 ls (.ref k :: st) h = if kd k = 8 then ex 114 36 ls (vl h k 13 :: st) h else none := x_getf hc_114 dX8_late_33 rfl fr_8_26
theorem x_114_36 {ls st : List Value} {h : Hp}  : ex 114 36 ls (st) h = gI (ldI ls 1) 114 37 ls st h := x_iload_n hc_114 dX8_late_36 rfl rfl
theorem x_114_37 {ls st : List Value} {h : Hp} {k : Nat} {x : Int32} : ex 114 37 ls (.int x :: .ref k :: st) h = if kd k = 9 ∧ x.toNatClampNeg < ln k ∧ 0 ≤ x then ex 114 38 ls (.int (h k x.toNatClampNeg) :: st) h else none := x_iald hc_114 dX8_late_37 rfl
theorem x_114_38 {ls st : List Value} {h : Hp} {x : Int32} : ex 114 38 ls (.int x :: st) h = ex 114 39 (ls.set 3 (.int x)) st h := x_istore_n hc_114 dX8_late_38 rfl rfl (by decide)
theorem x_114_39 {ls st : List Value} {h : Hp}  : ex 114 39 ls (st) h = gA (ldA ls 0) 114 40 ls st h := x_aload_n hc_114 dX8_late_39 rfl rfl
theorem x_114_40 {ls st : List Value} {h : Hp} {k : Nat} : ex 114 40 ls (.ref k :: st) h = if kd k = 8 then ex 114 43 ls (vl h k 13 :: st) h else none := x_getf hc_114 dX8_late_40 rfl fr_8_26
theorem x_114_43 {ls st : List Value} {h : Hp}  : ex 114 43 ls (st) h = gI (ldI ls 1) 114 44 ls st h := x_iload_n hc_114 dX8_late_43 rfl rfl
theorem x_114_44 {ls st : List Value} {h : Hp}  : ex 114 44 ls (st) h = gI (ldI ls 2) 114 45 ls st h := x_iload_n hc_114 dX8_late_44 rfl rfl
theorem x_114_45 {ls st : List Value} {h : Hp} {k : Nat} {x u : Int32} : ex 114 45 ls (.int u :: .int x :: .ref k :: st) h = if kd k = 9 ∧ x.toNatClampNeg < ln k ∧ 0 ≤ x then ex 114 46 ls st (hu h k x.toNatClampNeg u) else none := x_iast hc_114 dX8_late_45 rfl
theorem x_114_46 {ls st : List Value} {h : Hp}  : ex 114 46 ls (st) h = gI (ldI ls 3) 114 47 ls st h := x_iload_n hc_114 dX8_late_46 rfl rfl
theorem x_114_47 {ls : List Value} {h : Hp} {v : Int32} : ex 114 47 ls [.int v] h = some (some (.int v), h) := x_iret hc_114 dX8_late_47 rfl
theorem x_115_0 {ls st : List Value} {h : Hp}  : ex 115 0 ls (st) h = gA (ldA ls 0) 115 1 ls st h := x_aload_n hc_115 dX8_look_0 rfl rfl
theorem x_115_1 {ls st : List Value} {h : Hp}  : ex 115 1 ls (st) h = gI (ldI ls 1) 115 2 ls st h := x_iload_n hc_115 dX8_look_1 rfl rfl
theorem x_115_2 {ls st : List Value} {h : Hp} {k : Nat} {a0 : Int32} : ex 115 2 ls (.int a0 :: .ref k :: st) h = if kd k = 8 ∧ st.length ≤ 4 then gC (ex 105 0 [.ref k, .int a0] [] h) 115 5 ls st else none := x_callV (as := [.int a0]) hc_115 dX8_look_2 rfl mr_8_168 rfl rfl rfl (by decide) (by decide)
theorem x_115_5 {ls st : List Value} {h : Hp} {x : Int32} : ex 115 5 ls (.int x :: st) h = if x = 0 then ex 115 8 ls st h else ex 115 15 ls st h := x_if_ne hc_115 dX8_look_5 rfl (by decide)
theorem x_115_8 {ls st : List Value} {h : Hp}  : ex 115 8 ls (st) h = gA (ldA ls 0) 115 9 ls st h := x_aload_n hc_115 dX8_look_8 rfl rfl
theorem x_115_9 {ls st : List Value} {h : Hp}  : ex 115 9 ls (st) h = ex 115 11 ls (.int (-3) :: st) h := x_bipush hc_115 dX8_look_9 rfl (by decide)
theorem x_115_11 {ls st : List Value} {h : Hp} {k : Nat} {a0 : Int32} : ex 115 11 ls (.int a0 :: .ref k :: st) h = if kd k = 8 ∧ st.length ≤ 4 then gC (ex 92 0 [.ref k, .int a0] [] h) 115 14 ls st else none := x_callV (as := [.int a0]) hc_115 dX8_look_11 rfl mr_8_148 rfl rfl rfl (by decide) (by decide)
theorem x_115_14 {ls : List Value} {h : Hp} {v : Int32} : ex 115 14 ls [.int v] h = some (some (.int v), h) := x_iret hc_115 dX8_look_14 rfl
theorem x_115_15 {ls st : List Value} {h : Hp}  : ex 115 15 ls (st) h = gI (ldI ls 2) 115 16 ls st h := x_iload_n hc_115 dX8_look_15 rfl rfl
theorem x_115_16 {ls st : List Value} {h : Hp} {x : Int32} : ex 115 16 ls (.int x :: st) h = if x = 0 then ex 115 64 ls st h else if x = 1 then ex 115 71 ls st h else if x = 2 then ex 115 78 ls st h else if x = 3 then ex 115 85 ls st h else if x = 4 then ex 115 92 ls st h else if x = 5 then ex 115 99 ls st h else if x = 6 then ex 115 106 ls st h else if x = 7 then ex 115 113 ls st h else ex 115 128 ls st h := by
  rw [x_tbl hc_115 dX8_look_16]
  by_cases h0 : x = 0
  · subst h0; rfl
  by_cases h1 : x = 1
  · subst h1; rfl
  by_cases h2 : x = 2
  · subst h2; rfl
  by_cases h3 : x = 3
  · subst h3; rfl
  by_cases h4 : x = 4
  · subst h4; rfl
  by_cases h5 : x = 5
  · subst h5; rfl
  by_cases h6 : x = 6
  · subst h6; rfl
  by_cases h7 : x = 7
  · subst h7; rfl
  have hz : x.toInt < 0 ∨ 7 < x.toInt := by
    have e0 := lv_neT (a := 0) h0 (by decide)
    have e1 := lv_neT (a := 1) h1 (by decide)
    have e2 := lv_neT (a := 2) h2 (by decide)
    have e3 := lv_neT (a := 3) h3 (by decide)
    have e4 := lv_neT (a := 4) h4 (by decide)
    have e5 := lv_neT (a := 5) h5 (by decide)
    have e6 := lv_neT (a := 6) h6 (by decide)
    have e7 := lv_neT (a := 7) h7 (by decide)
    omega
  rw [if_pos hz, if_neg h0, if_neg h1, if_neg h2, if_neg h3, if_neg h4, if_neg h5, if_neg h6, if_neg h7]
  rfl
theorem x_115_64 {ls st : List Value} {h : Hp}  : ex 115 64 ls (st) h = gA (ldA ls 0) 115 65 ls st h := x_aload_n hc_115 dX8_look_64 rfl rfl
theorem x_115_65 {ls st : List Value} {h : Hp} {k : Nat} : ex 115 65 ls (.ref k :: st) h = if kd k = 8 then ex 115 68 ls (vl h k 20 :: st) h else none := x_getf hc_115 dX8_look_65 rfl fr_8_47
theorem x_115_68 {ls st : List Value} {h : Hp}  : ex 115 68 ls (st) h = gI (ldI ls 1) 115 69 ls st h := x_iload_n hc_115 dX8_look_68 rfl rfl
theorem x_115_69 {ls st : List Value} {h : Hp} {k : Nat} {x : Int32} : ex 115 69 ls (.int x :: .ref k :: st) h = if kd k = 9 ∧ x.toNatClampNeg < ln k ∧ 0 ≤ x then ex 115 70 ls (.int (h k x.toNatClampNeg) :: st) h else none := x_iald hc_115 dX8_look_69 rfl
theorem x_115_70 {ls : List Value} {h : Hp} {v : Int32} : ex 115 70 ls [.int v] h = some (some (.int v), h) := x_iret hc_115 dX8_look_70 rfl
theorem x_115_71 {ls st : List Value} {h : Hp}  : ex 115 71 ls (st) h = gA (ldA ls 0) 115 72 ls st h := x_aload_n hc_115 dX8_look_71 rfl rfl
theorem x_115_72 {ls st : List Value} {h : Hp} {k : Nat} : ex 115 72 ls (.ref k :: st) h = if kd k = 8 then ex 115 75 ls (vl h k 23 :: st) h else none := x_getf hc_115 dX8_look_72 rfl fr_8_56
theorem x_115_75 {ls st : List Value} {h : Hp}  : ex 115 75 ls (st) h = gI (ldI ls 1) 115 76 ls st h := x_iload_n hc_115 dX8_look_75 rfl rfl
theorem x_115_76 {ls st : List Value} {h : Hp} {k : Nat} {x : Int32} : ex 115 76 ls (.int x :: .ref k :: st) h = if kd k = 9 ∧ x.toNatClampNeg < ln k ∧ 0 ≤ x then ex 115 77 ls (.int (h k x.toNatClampNeg) :: st) h else none := x_iald hc_115 dX8_look_76 rfl
theorem x_115_77 {ls : List Value} {h : Hp} {v : Int32} : ex 115 77 ls [.int v] h = some (some (.int v), h) := x_iret hc_115 dX8_look_77 rfl
theorem x_115_78 {ls st : List Value} {h : Hp}  : ex 115 78 ls (st) h = gA (ldA ls 0) 115 79 ls st h := x_aload_n hc_115 dX8_look_78 rfl rfl
theorem x_115_79 {ls st : List Value} {h : Hp} {k : Nat} : ex 115 79 ls (.ref k :: st) h = if kd k = 8 then ex 115 82 ls (vl h k 22 :: st) h else none := x_getf hc_115 dX8_look_79 rfl fr_8_53
theorem x_115_82 {ls st : List Value} {h : Hp}  : ex 115 82 ls (st) h = gI (ldI ls 1) 115 83 ls st h := x_iload_n hc_115 dX8_look_82 rfl rfl
theorem x_115_83 {ls st : List Value} {h : Hp} {k : Nat} {x : Int32} : ex 115 83 ls (.int x :: .ref k :: st) h = if kd k = 9 ∧ x.toNatClampNeg < ln k ∧ 0 ≤ x then ex 115 84 ls (.int (h k x.toNatClampNeg) :: st) h else none := x_iald hc_115 dX8_look_83 rfl
theorem x_115_84 {ls : List Value} {h : Hp} {v : Int32} : ex 115 84 ls [.int v] h = some (some (.int v), h) := x_iret hc_115 dX8_look_84 rfl
theorem x_115_85 {ls st : List Value} {h : Hp}  : ex 115 85 ls (st) h = gA (ldA ls 0) 115 86 ls st h := x_aload_n hc_115 dX8_look_85 rfl rfl
theorem x_115_86 {ls st : List Value} {h : Hp} {k : Nat} : ex 115 86 ls (.ref k :: st) h = if kd k = 8 then ex 115 89 ls (vl h k 24 :: st) h else none := x_getf hc_115 dX8_look_86 rfl fr_8_59
theorem x_115_89 {ls st : List Value} {h : Hp}  : ex 115 89 ls (st) h = gI (ldI ls 1) 115 90 ls st h := x_iload_n hc_115 dX8_look_89 rfl rfl
theorem x_115_90 {ls st : List Value} {h : Hp} {k : Nat} {x : Int32} : ex 115 90 ls (.int x :: .ref k :: st) h = if kd k = 9 ∧ x.toNatClampNeg < ln k ∧ 0 ≤ x then ex 115 91 ls (.int (h k x.toNatClampNeg) :: st) h else none := x_iald hc_115 dX8_look_90 rfl
theorem x_115_91 {ls : List Value} {h : Hp} {v : Int32} : ex 115 91 ls [.int v] h = some (some (.int v), h) := x_iret hc_115 dX8_look_91 rfl
theorem x_115_92 {ls st : List Value} {h : Hp}  : ex 115 92 ls (st) h = gA (ldA ls 0) 115 93 ls st h := x_aload_n hc_115 dX8_look_92 rfl rfl
theorem x_115_93 {ls st : List Value} {h : Hp} {k : Nat} : ex 115 93 ls (.ref k :: st) h = if kd k = 8 then ex 115 96 ls (vl h k 18 :: st) h else none := x_getf hc_115 dX8_look_93 rfl fr_8_41
theorem x_115_96 {ls st : List Value} {h : Hp}  : ex 115 96 ls (st) h = gI (ldI ls 1) 115 97 ls st h := x_iload_n hc_115 dX8_look_96 rfl rfl
theorem x_115_97 {ls st : List Value} {h : Hp} {k : Nat} {x : Int32} : ex 115 97 ls (.int x :: .ref k :: st) h = if kd k = 9 ∧ x.toNatClampNeg < ln k ∧ 0 ≤ x then ex 115 98 ls (.int (h k x.toNatClampNeg) :: st) h else none := x_iald hc_115 dX8_look_97 rfl
theorem x_115_98 {ls : List Value} {h : Hp} {v : Int32} : ex 115 98 ls [.int v] h = some (some (.int v), h) := x_iret hc_115 dX8_look_98 rfl
theorem x_115_99 {ls st : List Value} {h : Hp}  : ex 115 99 ls (st) h = gA (ldA ls 0) 115 100 ls st h := x_aload_n hc_115 dX8_look_99 rfl rfl
theorem x_115_100 {ls st : List Value} {h : Hp} {k : Nat} : ex 115 100 ls (.ref k :: st) h = if kd k = 8 then ex 115 103 ls (vl h k 19 :: st) h else none := x_getf hc_115 dX8_look_100 rfl fr_8_44
theorem x_115_103 {ls st : List Value} {h : Hp}  : ex 115 103 ls (st) h = gI (ldI ls 1) 115 104 ls st h := x_iload_n hc_115 dX8_look_103 rfl rfl
theorem x_115_104 {ls st : List Value} {h : Hp} {k : Nat} {x : Int32} : ex 115 104 ls (.int x :: .ref k :: st) h = if kd k = 9 ∧ x.toNatClampNeg < ln k ∧ 0 ≤ x then ex 115 105 ls (.int (h k x.toNatClampNeg) :: st) h else none := x_iald hc_115 dX8_look_104 rfl
theorem x_115_105 {ls : List Value} {h : Hp} {v : Int32} : ex 115 105 ls [.int v] h = some (some (.int v), h) := x_iret hc_115 dX8_look_105 rfl
theorem x_115_106 {ls st : List Value} {h : Hp}  : ex 115 106 ls (st) h = gA (ldA ls 0) 115 107 ls st h := x_aload_n hc_115 dX8_look_106 rfl rfl
theorem x_115_107 {ls st : List Value} {h : Hp} {k : Nat} : ex 115 107 ls (.ref k :: st) h = if kd k = 8 then ex 115 110 ls (vl h k 25 :: st) h else none := x_getf hc_115 dX8_look_107 rfl fr_8_62
theorem x_115_110 {ls st : List Value} {h : Hp}  : ex 115 110 ls (st) h = gI (ldI ls 1) 115 111 ls st h := x_iload_n hc_115 dX8_look_110 rfl rfl
theorem x_115_111 {ls st : List Value} {h : Hp} {k : Nat} {x : Int32} : ex 115 111 ls (.int x :: .ref k :: st) h = if kd k = 9 ∧ x.toNatClampNeg < ln k ∧ 0 ≤ x then ex 115 112 ls (.int (h k x.toNatClampNeg) :: st) h else none := x_iald hc_115 dX8_look_111 rfl
theorem x_115_112 {ls : List Value} {h : Hp} {v : Int32} : ex 115 112 ls [.int v] h = some (some (.int v), h) := x_iret hc_115 dX8_look_112 rfl
theorem x_115_113 {ls st : List Value} {h : Hp}  : ex 115 113 ls (st) h = gA (ldA ls 0) 115 114 ls st h := x_aload_n hc_115 dX8_look_113 rfl rfl
theorem x_115_114 {ls st : List Value} {h : Hp} {k : Nat} : ex 115 114 ls (.ref k :: st) h = if kd k = 8 then ex 115 117 ls (vl h k 27 :: st) h else none := x_getf hc_115 dX8_look_114 rfl fr_8_68
theorem x_115_117 {ls st : List Value} {h : Hp}  : ex 115 117 ls (st) h = gI (ldI ls 1) 115 118 ls st h := x_iload_n hc_115 dX8_look_117 rfl rfl
theorem x_115_118 {ls st : List Value} {h : Hp} {k : Nat} {x : Int32} : ex 115 118 ls (.int x :: .ref k :: st) h = if kd k = 10 ∧ x.toNatClampNeg < ln k ∧ 0 ≤ x then ex 115 119 ls (.int (h k x.toNatClampNeg) :: st) h else none := x_zald hc_115 dX8_look_118 rfl
theorem x_115_119 {ls st : List Value} {h : Hp} {x : Int32} : ex 115 119 ls (.int x :: st) h = if x = 0 then ex 115 126 ls st h else ex 115 122 ls st h := x_if_eq hc_115 dX8_look_119 rfl (by decide)
theorem x_115_122 {ls st : List Value} {h : Hp}  : ex 115 122 ls (st) h = ex 115 123 ls (.int (1) :: st) h := x_iconst hc_115 dX8_look_122 rfl (by decide)
theorem x_115_123 {ls st : List Value} {h : Hp}  : ex 115 123 ls (st) h = ex 115 127 ls st h := x_goto hc_115 dX8_look_123 (by decide)
theorem x_115_126 {ls st : List Value} {h : Hp}  : ex 115 126 ls (st) h = ex 115 127 ls (.int (0) :: st) h := x_iconst hc_115 dX8_look_126 rfl (by decide)
theorem x_115_127 {ls : List Value} {h : Hp} {v : Int32} : ex 115 127 ls [.int v] h = some (some (.int v), h) := x_iret hc_115 dX8_look_127 rfl
theorem x_115_128 {ls st : List Value} {h : Hp}  : ex 115 128 ls (st) h = gA (ldA ls 0) 115 129 ls st h := x_aload_n hc_115 dX8_look_128 rfl rfl
theorem x_115_129 {ls st : List Value} {h : Hp}  : ex 115 129 ls (st) h = ex 115 131 ls (.int (-7) :: st) h := x_bipush hc_115 dX8_look_129 rfl (by decide)
theorem x_115_131 {ls st : List Value} {h : Hp} {k : Nat} {a0 : Int32} : ex 115 131 ls (.int a0 :: .ref k :: st) h = if kd k = 8 ∧ st.length ≤ 4 then gC (ex 92 0 [.ref k, .int a0] [] h) 115 134 ls st else none := x_callV (as := [.int a0]) hc_115 dX8_look_131 rfl mr_8_148 rfl rfl rfl (by decide) (by decide)
theorem x_115_134 {ls : List Value} {h : Hp} {v : Int32} : ex 115 134 ls [.int v] h = some (some (.int v), h) := x_iret hc_115 dX8_look_134 rfl
theorem x_116_0 {ls st : List Value} {h : Hp}  : ex 116 0 ls (st) h = gI (ldI ls 2) 116 1 ls st h := x_iload_n hc_116 dX8_feed_0 rfl rfl
theorem x_116_1 {ls st : List Value} {h : Hp} {x : Int32} : ex 116 1 ls (.int x :: st) h = if x < 0 then ex 116 4 ls st h else ex 116 11 ls st h := x_if_ge hc_116 dX8_feed_1 rfl (by decide)
theorem x_116_4 {ls st : List Value} {h : Hp}  : ex 116 4 ls (st) h = gA (ldA ls 0) 116 5 ls st h := x_aload_n hc_116 dX8_feed_4 rfl rfl
theorem x_116_5 {ls st : List Value} {h : Hp}  : ex 116 5 ls (st) h = ex 116 7 ls (.int (-4) :: st) h := x_bipush hc_116 dX8_feed_5 rfl (by decide)
theorem x_116_7 {ls st : List Value} {h : Hp} {k : Nat} {a0 : Int32} : ex 116 7 ls (.int a0 :: .ref k :: st) h = if kd k = 8 ∧ st.length ≤ 4 then gC (ex 92 0 [.ref k, .int a0] [] h) 116 10 ls st else none := x_callV (as := [.int a0]) hc_116 dX8_feed_7 rfl mr_8_148 rfl rfl rfl (by decide) (by decide)
theorem x_116_10 {ls : List Value} {h : Hp} {v : Int32} : ex 116 10 ls [.int v] h = some (some (.int v), h) := x_iret hc_116 dX8_feed_10 rfl
theorem x_116_11 {ls st : List Value} {h : Hp}  : ex 116 11 ls (st) h = gI (ldI ls 2) 116 12 ls st h := x_iload_n hc_116 dX8_feed_11 rfl rfl
theorem x_116_12 {ls st : List Value} {h : Hp}  : ex 116 12 ls (st) h = ex 116 13 ls (.int (4) :: st) h := x_iconst hc_116 dX8_feed_12 rfl (by decide)
theorem x_116_13 {ls st : List Value} {h : Hp} {x z : Int32} : ex 116 13 ls (.int z :: .int x :: st) h = if z < x then ex 116 16 ls st h else ex 116 23 ls st h := x_icmp_le hc_116 dX8_feed_13 rfl (by decide)
theorem x_116_16 {ls st : List Value} {h : Hp}  : ex 116 16 ls (st) h = gA (ldA ls 0) 116 17 ls st h := x_aload_n hc_116 dX8_feed_16 rfl rfl
theorem x_116_17 {ls st : List Value} {h : Hp}  : ex 116 17 ls (st) h = ex 116 19 ls (.int (-7) :: st) h := x_bipush hc_116 dX8_feed_17 rfl (by decide)
theorem x_116_19 {ls st : List Value} {h : Hp} {k : Nat} {a0 : Int32} : ex 116 19 ls (.int a0 :: .ref k :: st) h = if kd k = 8 ∧ st.length ≤ 4 then gC (ex 92 0 [.ref k, .int a0] [] h) 116 22 ls st else none := x_callV (as := [.int a0]) hc_116 dX8_feed_19 rfl mr_8_148 rfl rfl rfl (by decide) (by decide)
theorem x_116_22 {ls : List Value} {h : Hp} {v : Int32} : ex 116 22 ls [.int v] h = some (some (.int v), h) := x_iret hc_116 dX8_feed_22 rfl
theorem x_116_23 {ls st : List Value} {h : Hp}  : ex 116 23 ls (st) h = gA (ldA ls 0) 116 24 ls st h := x_aload_n hc_116 dX8_feed_23 rfl rfl
theorem x_116_24 {ls st : List Value} {h : Hp} {k : Nat} : ex 116 24 ls (.ref k :: st) h = if kd k = 8 then ex 116 27 ls (vl h k 4 :: st) h else none := x_getf hc_116 dX8_feed_24 rfl fr_8_185
theorem x_116_27 {ls st : List Value} {h : Hp}  : ex 116 27 ls (st) h = gI (ldI ls 2) 116 28 ls st h := x_iload_n hc_116 dX8_feed_27 rfl rfl
theorem x_116_28 {ls st : List Value} {h : Hp} {a b : Int32} : ex 116 28 ls (.int b :: .int a :: st) h = ex 116 29 ls (.int (a + b) :: st) h := x_iadd hc_116 dX8_feed_28 rfl
theorem x_116_29 {ls st : List Value} {h : Hp}  : ex 116 29 ls (st) h = ex 116 31 ls (.int (80) :: st) h := x_bipush hc_116 dX8_feed_29 rfl (by decide)
theorem x_116_31 {ls st : List Value} {h : Hp} {x z : Int32} : ex 116 31 ls (.int z :: .int x :: st) h = if z < x then ex 116 34 ls st h else ex 116 41 ls st h := x_icmp_le hc_116 dX8_feed_31 rfl (by decide)
theorem x_116_34 {ls st : List Value} {h : Hp}  : ex 116 34 ls (st) h = gA (ldA ls 0) 116 35 ls st h := x_aload_n hc_116 dX8_feed_34 rfl rfl
theorem x_116_35 {ls st : List Value} {h : Hp}  : ex 116 35 ls (st) h = ex 116 37 ls (.int (-8) :: st) h := x_bipush hc_116 dX8_feed_35 rfl (by decide)
theorem x_116_37 {ls st : List Value} {h : Hp} {k : Nat} {a0 : Int32} : ex 116 37 ls (.int a0 :: .ref k :: st) h = if kd k = 8 ∧ st.length ≤ 4 then gC (ex 92 0 [.ref k, .int a0] [] h) 116 40 ls st else none := x_callV (as := [.int a0]) hc_116 dX8_feed_37 rfl mr_8_148 rfl rfl rfl (by decide) (by decide)
theorem x_116_40 {ls : List Value} {h : Hp} {v : Int32} : ex 116 40 ls [.int v] h = some (some (.int v), h) := x_iret hc_116 dX8_feed_40 rfl
theorem x_116_41 {ls st : List Value} {h : Hp}  : ex 116 41 ls (st) h = gI (ldI ls 2) 116 42 ls st h := x_iload_n hc_116 dX8_feed_41 rfl rfl
theorem x_116_42 {ls st : List Value} {h : Hp}  : ex 116 42 ls (st) h = ex 116 43 ls (.int (1) :: st) h := x_iconst hc_116 dX8_feed_42 rfl (by decide)
theorem x_116_43 {ls st : List Value} {h : Hp} {a b : Int32} : ex 116 43 ls (.int b :: .int a :: st) h = ex 116 44 ls (.int (a - b) :: st) h := x_isub hc_116 dX8_feed_43 rfl
theorem x_116_44 {ls st : List Value} {h : Hp} {x : Int32} : ex 116 44 ls (.int x :: st) h = ex 116 45 (ls.set 3 (.int x)) st h := x_istore_n hc_116 dX8_feed_44 rfl rfl (by decide)
theorem x_116_45 {ls st : List Value} {h : Hp}  : ex 116 45 ls (st) h = gI (ldI ls 3) 116 46 ls st h := x_iload_n hc_116 dX8_feed_45 rfl rfl
theorem x_116_46 {ls st : List Value} {h : Hp} {x : Int32} : ex 116 46 ls (.int x :: st) h = if x < 0 then ex 116 81 ls st h else ex 116 49 ls st h := x_if_lt hc_116 dX8_feed_46 rfl (by decide)
theorem x_116_49 {ls st : List Value} {h : Hp}  : ex 116 49 ls (st) h = gA (ldA ls 0) 116 50 ls st h := x_aload_n hc_116 dX8_feed_49 rfl rfl
theorem x_116_50 {ls st : List Value} {h : Hp} {k : Nat} : ex 116 50 ls (.ref k :: st) h = if kd k = 8 then ex 116 53 ls (vl h k 47 :: st) h else none := x_getf hc_116 dX8_feed_50 rfl fr_8_126
theorem x_116_53 {ls st : List Value} {h : Hp}  : ex 116 53 ls (st) h = gA (ldA ls 0) 116 54 ls st h := x_aload_n hc_116 dX8_feed_53 rfl rfl
theorem x_116_54i {ls st : List Value} {h : Hp} {u : Int32} : ex 116 54 ls (.int u :: st) h = ex 116 55 ls (.int u :: .int u :: st) h := x_dup_i hc_116 dX8_feed_54 rfl
theorem x_116_54a {ls st : List Value} {h : Hp} {u : Nat} : ex 116 54 ls (.ref u :: st) h = ex 116 55 ls (.ref u :: .ref u :: st) h := x_dup_a hc_116 dX8_feed_54 rfl
theorem x_116_55 {ls st : List Value} {h : Hp} {k : Nat} : ex 116 55 ls (.ref k :: st) h = if kd k = 8 then ex 116 58 ls (vl h k 4 :: st) h else none := x_getf hc_116 dX8_feed_55 rfl fr_8_185
theorem x_116_58ii {ls st : List Value} {h : Hp} {u : Int32} {v : Int32} : ex 116 58 ls (.int u :: .int v :: st) h = ex 116 59 ls (.int u :: .int v :: .int u :: st) h := x_dup_x1_ii hc_116 dX8_feed_58 rfl
theorem x_116_58ia {ls st : List Value} {h : Hp} {u : Int32} {v : Nat} : ex 116 58 ls (.int u :: .ref v :: st) h = ex 116 59 ls (.int u :: .ref v :: .int u :: st) h := x_dup_x1_ia hc_116 dX8_feed_58 rfl
theorem x_116_58ai {ls st : List Value} {h : Hp} {u : Nat} {v : Int32} : ex 116 58 ls (.ref u :: .int v :: st) h = ex 116 59 ls (.ref u :: .int v :: .ref u :: st) h := x_dup_x1_ai hc_116 dX8_feed_58 rfl
theorem x_116_58aa {ls st : List Value} {h : Hp} {u : Nat} {v : Nat} : ex 116 58 ls (.ref u :: .ref v :: st) h = ex 116 59 ls (.ref u :: .ref v :: .ref u :: st) h := x_dup_x1_aa hc_116 dX8_feed_58 rfl
theorem x_116_59 {ls st : List Value} {h : Hp}  : ex 116 59 ls (st) h = ex 116 60 ls (.int (1) :: st) h := x_iconst hc_116 dX8_feed_59 rfl (by decide)
theorem x_116_60 {ls st : List Value} {h : Hp} {a b : Int32} : ex 116 60 ls (.int b :: .int a :: st) h = ex 116 61 ls (.int (a + b) :: st) h := x_iadd hc_116 dX8_feed_60 rfl
theorem x_116_61 {ls st : List Value} {h : Hp} {k : Nat} {x : Int32} : ex 116 61 ls (.int x :: .ref k :: st) h = if kd k = 8 then ex 116 64 ls st (hu h k 4 x) else none := x_putf hc_116 dX8_feed_61 rfl fr_8_185 (by decide)
theorem x_116_64 {ls st : List Value} {h : Hp}  : ex 116 64 ls (st) h = gI (ldI ls 1) 116 65 ls st h := x_iload_n hc_116 dX8_feed_64 rfl rfl
theorem x_116_65 {ls st : List Value} {h : Hp}  : ex 116 65 ls (st) h = ex 116 67 ls (.int (8) :: st) h := x_bipush hc_116 dX8_feed_65 rfl (by decide)
theorem x_116_67 {ls st : List Value} {h : Hp}  : ex 116 67 ls (st) h = gI (ldI ls 3) 116 68 ls st h := x_iload_n hc_116 dX8_feed_67 rfl rfl
theorem x_116_68 {ls st : List Value} {h : Hp} {a b : Int32} : ex 116 68 ls (.int b :: .int a :: st) h = ex 116 69 ls (.int (a * b) :: st) h := x_imul hc_116 dX8_feed_68 rfl
theorem x_116_69 {ls st : List Value} {h : Hp} {a b : Int32} : ex 116 69 ls (.int b :: .int a :: st) h = ex 116 70 ls (.int (a >>> (b &&& 31)) :: st) h := x_ishr hc_116 dX8_feed_69 rfl
theorem x_116_70 {ls st : List Value} {h : Hp}  : ex 116 70 ls (st) h = ex 116 73 ls (.int (255) :: st) h := x_sipush hc_116 dX8_feed_70 rfl (by decide)
theorem x_116_73 {ls st : List Value} {h : Hp} {a b : Int32} : ex 116 73 ls (.int b :: .int a :: st) h = ex 116 74 ls (.int (a &&& b) :: st) h := x_iand hc_116 dX8_feed_73 rfl
theorem x_116_74 {ls st : List Value} {h : Hp} {k : Nat} {x u : Int32} : ex 116 74 ls (.int u :: .int x :: .ref k :: st) h = if kd k = 9 ∧ x.toNatClampNeg < ln k ∧ 0 ≤ x then ex 116 75 ls st (hu h k x.toNatClampNeg u) else none := x_iast hc_116 dX8_feed_74 rfl
theorem x_116_75 {ls st : List Value} {h : Hp}  : ex 116 75 ls (st) h = gN (ldI ls 3) 116 78 ls 3 (-1) st h := x_iinc hc_116 dX8_feed_75 rfl (by decide) (by decide)
theorem x_116_78 {ls st : List Value} {h : Hp}  : ex 116 78 ls (st) h = ex 116 45 ls st h := x_goto hc_116 dX8_feed_78 (by decide)
theorem x_116_81 {ls st : List Value} {h : Hp}  : ex 116 81 ls (st) h = gA (ldA ls 0) 116 82 ls st h := x_aload_n hc_116 dX8_feed_81 rfl rfl
theorem x_116_82 {ls st : List Value} {h : Hp} {k : Nat} : ex 116 82 ls (.ref k :: st) h = if kd k = 8 then ex 116 85 ls (vl h k 4 :: st) h else none := x_getf hc_116 dX8_feed_82 rfl fr_8_185
theorem x_116_85 {ls : List Value} {h : Hp} {v : Int32} : ex 116 85 ls [.int v] h = some (some (.int v), h) := x_iret hc_116 dX8_feed_85 rfl
theorem x_117_0 {ls st : List Value} {h : Hp}  : ex 117 0 ls (st) h = gA (ldA ls 0) 117 1 ls st h := x_aload_n hc_117 dX8_wipe_0 rfl rfl
theorem x_117_1 {ls st : List Value} {h : Hp} {k : Nat} : ex 117 1 ls (.ref k :: st) h = if kd k = 8 then ex 117 4 ls (vl h k 4 :: st) h else none := x_getf hc_117 dX8_wipe_1 rfl fr_8_185
theorem x_117_4 {ls st : List Value} {h : Hp} {x : Int32} : ex 117 4 ls (.int x :: st) h = ex 117 5 (ls.set 1 (.int x)) st h := x_istore_n hc_117 dX8_wipe_4 rfl rfl (by decide)
theorem x_117_5 {ls st : List Value} {h : Hp}  : ex 117 5 ls (st) h = gA (ldA ls 0) 117 6 ls st h := x_aload_n hc_117 dX8_wipe_5 rfl rfl
theorem x_117_6 {ls st : List Value} {h : Hp}  : ex 117 6 ls (st) h = ex 117 7 ls (.int (0) :: st) h := x_iconst hc_117 dX8_wipe_6 rfl (by decide)
theorem x_117_7 {ls st : List Value} {h : Hp} {k : Nat} {x : Int32} : ex 117 7 ls (.int x :: .ref k :: st) h = if kd k = 8 then ex 117 10 ls st (hu h k 4 x) else none := x_putf hc_117 dX8_wipe_7 rfl fr_8_185 (by decide)
theorem x_117_10 {ls st : List Value} {h : Hp}  : ex 117 10 ls (st) h = gI (ldI ls 1) 117 11 ls st h := x_iload_n hc_117 dX8_wipe_10 rfl rfl
theorem x_117_11 {ls : List Value} {h : Hp} {v : Int32} : ex 117 11 ls [.int v] h = some (some (.int v), h) := x_iret hc_117 dX8_wipe_11 rfl
theorem x_118_0 {ls st : List Value} {h : Hp}  : ex 118 0 ls (st) h = gI (ldI ls 1) 118 1 ls st h := x_iload_n hc_118 dX8_rule_0 rfl rfl
theorem x_118_1 {ls st : List Value} {h : Hp} {x : Int32} : ex 118 1 ls (.int x :: st) h = if x < 0 then ex 118 15 ls st h else ex 118 4 ls st h := x_if_lt hc_118 dX8_rule_1 rfl (by decide)
theorem x_118_4 {ls st : List Value} {h : Hp}  : ex 118 4 ls (st) h = gI (ldI ls 2) 118 5 ls st h := x_iload_n hc_118 dX8_rule_4 rfl rfl
theorem x_118_5 {ls st : List Value} {h : Hp}  : ex 118 5 ls (st) h = ex 118 7 ls (.int 100000 :: st) h := x_ldc hc_118 dX8_rule_5 rfl (by decide +kernel)
theorem x_118_7 {ls st : List Value} {h : Hp} {x z : Int32} : ex 118 7 ls (.int z :: .int x :: st) h = if z < x then ex 118 15 ls st h else ex 118 10 ls st h := x_icmp_gt hc_118 dX8_rule_7 rfl (by decide)
theorem x_118_10 {ls st : List Value} {h : Hp}  : ex 118 10 ls (st) h = gI (ldI ls 1) 118 11 ls st h := x_iload_n hc_118 dX8_rule_10 rfl rfl
theorem x_118_11 {ls st : List Value} {h : Hp}  : ex 118 11 ls (st) h = gI (ldI ls 2) 118 12 ls st h := x_iload_n hc_118 dX8_rule_11 rfl rfl
theorem x_118_12 {ls st : List Value} {h : Hp} {x z : Int32} : ex 118 12 ls (.int z :: .int x :: st) h = if x < z then ex 118 22 ls st h else ex 118 15 ls st h := x_icmp_lt hc_118 dX8_rule_12 rfl (by decide)
theorem x_118_15 {ls st : List Value} {h : Hp}  : ex 118 15 ls (st) h = gA (ldA ls 0) 118 16 ls st h := x_aload_n hc_118 dX8_rule_15 rfl rfl
theorem x_118_16 {ls st : List Value} {h : Hp}  : ex 118 16 ls (st) h = ex 118 18 ls (.int (-7) :: st) h := x_bipush hc_118 dX8_rule_16 rfl (by decide)
theorem x_118_18 {ls st : List Value} {h : Hp} {k : Nat} {a0 : Int32} : ex 118 18 ls (.int a0 :: .ref k :: st) h = if kd k = 8 ∧ st.length ≤ 4 then gC (ex 92 0 [.ref k, .int a0] [] h) 118 21 ls st else none := x_callV (as := [.int a0]) hc_118 dX8_rule_18 rfl mr_8_148 rfl rfl rfl (by decide) (by decide)
theorem x_118_21 {ls : List Value} {h : Hp} {v : Int32} : ex 118 21 ls [.int v] h = some (some (.int v), h) := x_iret hc_118 dX8_rule_21 rfl
theorem x_118_22 {ls st : List Value} {h : Hp}  : ex 118 22 ls (st) h = gA (ldA ls 0) 118 23 ls st h := x_aload_n hc_118 dX8_rule_22 rfl rfl
theorem x_118_23 {ls st : List Value} {h : Hp} {k : Nat} : ex 118 23 ls (.ref k :: st) h = if kd k = 8 then ex 118 26 ls (vl h k 3 :: st) h else none := x_getf hc_118 dX8_rule_23 rfl fr_8_233
theorem x_118_26 {ls st : List Value} {h : Hp}  : ex 118 26 ls (st) h = ex 118 28 ls (.int (10) :: st) h := x_bipush hc_118 dX8_rule_26 rfl (by decide)
theorem x_118_28 {ls st : List Value} {h : Hp} {x z : Int32} : ex 118 28 ls (.int z :: .int x :: st) h = if x = z then ex 118 31 ls st h else ex 118 38 ls st h := x_icmp_ne hc_118 dX8_rule_28 rfl (by decide)
theorem x_118_31 {ls st : List Value} {h : Hp}  : ex 118 31 ls (st) h = gA (ldA ls 0) 118 32 ls st h := x_aload_n hc_118 dX8_rule_31 rfl rfl
theorem x_118_32 {ls st : List Value} {h : Hp}  : ex 118 32 ls (st) h = ex 118 34 ls (.int (-8) :: st) h := x_bipush hc_118 dX8_rule_32 rfl (by decide)
theorem x_118_34 {ls st : List Value} {h : Hp} {k : Nat} {a0 : Int32} : ex 118 34 ls (.int a0 :: .ref k :: st) h = if kd k = 8 ∧ st.length ≤ 4 then gC (ex 92 0 [.ref k, .int a0] [] h) 118 37 ls st else none := x_callV (as := [.int a0]) hc_118 dX8_rule_34 rfl mr_8_148 rfl rfl rfl (by decide) (by decide)
theorem x_118_37 {ls : List Value} {h : Hp} {v : Int32} : ex 118 37 ls [.int v] h = some (some (.int v), h) := x_iret hc_118 dX8_rule_37 rfl
theorem x_118_38 {ls st : List Value} {h : Hp}  : ex 118 38 ls (st) h = gA (ldA ls 0) 118 39 ls st h := x_aload_n hc_118 dX8_rule_38 rfl rfl
theorem x_118_39 {ls st : List Value} {h : Hp}  : ex 118 39 ls (st) h = gA (ldA ls 0) 118 40 ls st h := x_aload_n hc_118 dX8_rule_39 rfl rfl
theorem x_118_40 {ls st : List Value} {h : Hp} {k : Nat} : ex 118 40 ls (.ref k :: st) h = if kd k = 8 then ex 118 43 ls (vl h k 3 :: st) h else none := x_getf hc_118 dX8_rule_40 rfl fr_8_233
theorem x_118_43 {ls st : List Value} {h : Hp} {k : Nat} {a0 : Int32} : ex 118 43 ls (.int a0 :: .ref k :: st) h = if kd k = 8 ∧ st.length ≤ 4 then gC (ex 119 0 [.ref k, .int a0, .null, .null, .null, .null] [] h) 118 46 ls st else none := x_callV (as := [.int a0]) hc_118 dX8_rule_43 rfl mr_8_236 rfl rfl rfl (by decide) (by decide)
theorem x_118_46 {ls st : List Value} {h : Hp}  : ex 118 46 ls (st) h = gA (ldA ls 0) 118 47 ls st h := x_aload_n hc_118 dX8_rule_46 rfl rfl
theorem x_118_47 {ls st : List Value} {h : Hp} {k : Nat} : ex 118 47 ls (.ref k :: st) h = if kd k = 8 then ex 118 50 ls (vl h k 53 :: st) h else none := x_getf hc_118 dX8_rule_47 rfl fr_8_194
theorem x_118_50 {ls st : List Value} {h : Hp}  : ex 118 50 ls (st) h = ex 118 51 ls (.int (-1) :: st) h := x_iconst hc_118 dX8_rule_50 rfl (by decide)
theorem x_118_51 {ls st : List Value} {h : Hp} {x z : Int32} : ex 118 51 ls (.int z :: .int x :: st) h = if x = z then ex 118 62 ls st h else ex 118 54 ls st h := x_icmp_eq hc_118 dX8_rule_51 rfl (by decide)
theorem x_118_54 {ls st : List Value} {h : Hp}  : ex 118 54 ls (st) h = ex 118 56 ls (.int (-10) :: st) h := x_bipush hc_118 dX8_rule_54 rfl (by decide)
theorem x_118_56 {ls st : List Value} {h : Hp}  : ex 118 56 ls (st) h = gA (ldA ls 0) 118 57 ls st h := x_aload_n hc_118 dX8_rule_56 rfl rfl
theorem x_118_57 {ls st : List Value} {h : Hp} {k : Nat} : ex 118 57 ls (.ref k :: st) h = if kd k = 8 then ex 118 60 ls (vl h k 53 :: st) h else none := x_getf hc_118 dX8_rule_57 rfl fr_8_194
theorem x_118_60 {ls st : List Value} {h : Hp} {a b : Int32} : ex 118 60 ls (.int b :: .int a :: st) h = ex 118 61 ls (.int (a - b) :: st) h := x_isub hc_118 dX8_rule_60 rfl
theorem x_118_61 {ls : List Value} {h : Hp} {v : Int32} : ex 118 61 ls [.int v] h = some (some (.int v), h) := x_iret hc_118 dX8_rule_61 rfl
theorem x_118_62 {ls st : List Value} {h : Hp}  : ex 118 62 ls (st) h = gA (ldA ls 0) 118 63 ls st h := x_aload_n hc_118 dX8_rule_62 rfl rfl
theorem x_118_63 {ls st : List Value} {h : Hp} {k : Nat} : ex 118 63 ls (.ref k :: st) h = if kd k = 8 then ex 118 66 ls (vl h k 41 :: st) h else none := x_getf hc_118 dX8_rule_63 rfl fr_8_108
theorem x_118_66 {ls st : List Value} {h : Hp}  : ex 118 66 ls (st) h = gA (ldA ls 0) 118 67 ls st h := x_aload_n hc_118 dX8_rule_66 rfl rfl
theorem x_118_67 {ls st : List Value} {h : Hp} {k : Nat} : ex 118 67 ls (.ref k :: st) h = if kd k = 8 then ex 118 70 ls (vl h k 3 :: st) h else none := x_getf hc_118 dX8_rule_67 rfl fr_8_233
theorem x_118_70 {ls st : List Value} {h : Hp}  : ex 118 70 ls (st) h = gI (ldI ls 1) 118 71 ls st h := x_iload_n hc_118 dX8_rule_70 rfl rfl
theorem x_118_71 {ls st : List Value} {h : Hp} {k : Nat} {x u : Int32} : ex 118 71 ls (.int u :: .int x :: .ref k :: st) h = if kd k = 9 ∧ x.toNatClampNeg < ln k ∧ 0 ≤ x then ex 118 72 ls st (hu h k x.toNatClampNeg u) else none := x_iast hc_118 dX8_rule_71 rfl
theorem x_118_72 {ls st : List Value} {h : Hp}  : ex 118 72 ls (st) h = gA (ldA ls 0) 118 73 ls st h := x_aload_n hc_118 dX8_rule_72 rfl rfl
theorem x_118_73 {ls st : List Value} {h : Hp} {k : Nat} : ex 118 73 ls (.ref k :: st) h = if kd k = 8 then ex 118 76 ls (vl h k 42 :: st) h else none := x_getf hc_118 dX8_rule_73 rfl fr_8_111
theorem x_118_76 {ls st : List Value} {h : Hp}  : ex 118 76 ls (st) h = gA (ldA ls 0) 118 77 ls st h := x_aload_n hc_118 dX8_rule_76 rfl rfl
theorem x_118_77 {ls st : List Value} {h : Hp} {k : Nat} : ex 118 77 ls (.ref k :: st) h = if kd k = 8 then ex 118 80 ls (vl h k 3 :: st) h else none := x_getf hc_118 dX8_rule_77 rfl fr_8_233
theorem x_118_80 {ls st : List Value} {h : Hp}  : ex 118 80 ls (st) h = gI (ldI ls 2) 118 81 ls st h := x_iload_n hc_118 dX8_rule_80 rfl rfl
theorem x_118_81 {ls st : List Value} {h : Hp} {k : Nat} {x u : Int32} : ex 118 81 ls (.int u :: .int x :: .ref k :: st) h = if kd k = 9 ∧ x.toNatClampNeg < ln k ∧ 0 ≤ x then ex 118 82 ls st (hu h k x.toNatClampNeg u) else none := x_iast hc_118 dX8_rule_81 rfl
theorem x_118_82 {ls st : List Value} {h : Hp}  : ex 118 82 ls (st) h = gA (ldA ls 0) 118 83 ls st h := x_aload_n hc_118 dX8_rule_82 rfl rfl
theorem x_118_83 {ls st : List Value} {h : Hp}  : ex 118 83 ls (st) h = ex 118 84 ls (.int (0) :: st) h := x_iconst hc_118 dX8_rule_83 rfl (by decide)
theorem x_118_84 {ls st : List Value} {h : Hp} {k : Nat} {x : Int32} : ex 118 84 ls (.int x :: .ref k :: st) h = if kd k = 8 then ex 118 87 ls st (hu h k 4 x) else none := x_putf hc_118 dX8_rule_84 rfl fr_8_185 (by decide)
theorem x_118_87 {ls st : List Value} {h : Hp}  : ex 118 87 ls (st) h = gA (ldA ls 0) 118 88 ls st h := x_aload_n hc_118 dX8_rule_87 rfl rfl
theorem x_118_88i {ls st : List Value} {h : Hp} {u : Int32} : ex 118 88 ls (.int u :: st) h = ex 118 89 ls (.int u :: .int u :: st) h := x_dup_i hc_118 dX8_rule_88 rfl
theorem x_118_88a {ls st : List Value} {h : Hp} {u : Nat} : ex 118 88 ls (.ref u :: st) h = ex 118 89 ls (.ref u :: .ref u :: st) h := x_dup_a hc_118 dX8_rule_88 rfl
theorem x_118_89 {ls st : List Value} {h : Hp} {k : Nat} : ex 118 89 ls (.ref k :: st) h = if kd k = 8 then ex 118 92 ls (vl h k 3 :: st) h else none := x_getf hc_118 dX8_rule_89 rfl fr_8_233
theorem x_118_92ii {ls st : List Value} {h : Hp} {u : Int32} {v : Int32} : ex 118 92 ls (.int u :: .int v :: st) h = ex 118 93 ls (.int u :: .int v :: .int u :: st) h := x_dup_x1_ii hc_118 dX8_rule_92 rfl
theorem x_118_92ia {ls st : List Value} {h : Hp} {u : Int32} {v : Nat} : ex 118 92 ls (.int u :: .ref v :: st) h = ex 118 93 ls (.int u :: .ref v :: .int u :: st) h := x_dup_x1_ia hc_118 dX8_rule_92 rfl
theorem x_118_92ai {ls st : List Value} {h : Hp} {u : Nat} {v : Int32} : ex 118 92 ls (.ref u :: .int v :: st) h = ex 118 93 ls (.ref u :: .int v :: .ref u :: st) h := x_dup_x1_ai hc_118 dX8_rule_92 rfl
theorem x_118_92aa {ls st : List Value} {h : Hp} {u : Nat} {v : Nat} : ex 118 92 ls (.ref u :: .ref v :: st) h = ex 118 93 ls (.ref u :: .ref v :: .ref u :: st) h := x_dup_x1_aa hc_118 dX8_rule_92 rfl
theorem x_118_93 {ls st : List Value} {h : Hp}  : ex 118 93 ls (st) h = ex 118 94 ls (.int (1) :: st) h := x_iconst hc_118 dX8_rule_93 rfl (by decide)
theorem x_118_94 {ls st : List Value} {h : Hp} {a b : Int32} : ex 118 94 ls (.int b :: .int a :: st) h = ex 118 95 ls (.int (a + b) :: st) h := x_iadd hc_118 dX8_rule_94 rfl
theorem x_118_95 {ls st : List Value} {h : Hp} {k : Nat} {x : Int32} : ex 118 95 ls (.int x :: .ref k :: st) h = if kd k = 8 then ex 118 98 ls st (hu h k 3 x) else none := x_putf hc_118 dX8_rule_95 rfl fr_8_233 (by decide)
theorem x_118_98 {ls : List Value} {h : Hp} {v : Int32} : ex 118 98 ls [.int v] h = some (some (.int v), h) := x_iret hc_118 dX8_rule_98 rfl
theorem x_119_0 {ls st : List Value} {h : Hp}  : ex 119 0 ls (st) h = gA (ldA ls 0) 119 1 ls st h := x_aload_n hc_119 dX8_reads_0 rfl rfl
theorem x_119_1 {ls st : List Value} {h : Hp}  : ex 119 1 ls (st) h = ex 119 2 ls (.int (0) :: st) h := x_iconst hc_119 dX8_reads_1 rfl (by decide)
theorem x_119_2 {ls st : List Value} {h : Hp} {k : Nat} {x : Int32} : ex 119 2 ls (.int x :: .ref k :: st) h = if kd k = 8 then ex 119 5 ls st (hu h k 52 x) else none := x_putf hc_119 dX8_reads_2 rfl fr_8_197 (by decide)
theorem x_119_5 {ls st : List Value} {h : Hp}  : ex 119 5 ls (st) h = gA (ldA ls 0) 119 6 ls st h := x_aload_n hc_119 dX8_reads_5 rfl rfl
theorem x_119_6 {ls st : List Value} {h : Hp}  : ex 119 6 ls (st) h = ex 119 7 ls (.int (-1) :: st) h := x_iconst hc_119 dX8_reads_6 rfl (by decide)
theorem x_119_7 {ls st : List Value} {h : Hp} {k : Nat} {x : Int32} : ex 119 7 ls (.int x :: .ref k :: st) h = if kd k = 8 then ex 119 10 ls st (hu h k 53 x) else none := x_putf hc_119 dX8_reads_7 rfl fr_8_194 (by decide)
theorem x_119_10 {ls st : List Value} {h : Hp}  : ex 119 10 ls (st) h = gA (ldA ls 0) 119 11 ls st h := x_aload_n hc_119 dX8_reads_10 rfl rfl
theorem x_119_11 {ls st : List Value} {h : Hp} {k : Nat} : ex 119 11 ls (.ref k :: st) h = if kd k = 8 then ex 119 14 ls (vl h k 43 :: st) h else none := x_getf hc_119 dX8_reads_11 rfl fr_8_114
theorem x_119_14 {ls st : List Value} {h : Hp}  : ex 119 14 ls (st) h = gI (ldI ls 1) 119 15 ls st h := x_iload_n hc_119 dX8_reads_14 rfl rfl
theorem x_119_15 {ls st : List Value} {h : Hp}  : ex 119 15 ls (st) h = ex 119 16 ls (.int (0) :: st) h := x_iconst hc_119 dX8_reads_15 rfl (by decide)
theorem x_119_16 {ls st : List Value} {h : Hp} {k : Nat} {x u : Int32} : ex 119 16 ls (.int u :: .int x :: .ref k :: st) h = if kd k = 9 ∧ x.toNatClampNeg < ln k ∧ 0 ≤ x then ex 119 17 ls st (hu h k x.toNatClampNeg u) else none := x_iast hc_119 dX8_reads_16 rfl
theorem x_119_17 {ls st : List Value} {h : Hp}  : ex 119 17 ls (st) h = gA (ldA ls 0) 119 18 ls st h := x_aload_n hc_119 dX8_reads_17 rfl rfl
theorem x_119_18 {ls st : List Value} {h : Hp} {k : Nat} : ex 119 18 ls (.ref k :: st) h = if kd k = 8 then ex 119 21 ls (vl h k 39 :: st) h else none := x_getf hc_119 dX8_reads_18 rfl fr_8_102
theorem x_119_21 {ls st : List Value} {h : Hp}  : ex 119 21 ls (st) h = gI (ldI ls 1) 119 22 ls st h := x_iload_n hc_119 dX8_reads_21 rfl rfl
theorem x_119_22 {ls st : List Value} {h : Hp}  : ex 119 22 ls (st) h = gA (ldA ls 0) 119 23 ls st h := x_aload_n hc_119 dX8_reads_22 rfl rfl
theorem x_119_23 {ls st : List Value} {h : Hp}  : ex 119 23 ls (st) h = ex 119 24 ls (.int (0) :: st) h := x_iconst hc_119 dX8_reads_23 rfl (by decide)
theorem x_119_24 {ls st : List Value} {h : Hp} {k : Nat} {a0 : Int32} : ex 119 24 ls (.int a0 :: .ref k :: st) h = if kd k = 8 ∧ st.length ≤ 4 then gC (ex 120 0 [.ref k, .int a0] [] h) 119 27 ls st else none := x_callV (as := [.int a0]) hc_119 dX8_reads_24 rfl mr_8_200 rfl rfl rfl (by decide) (by decide)
theorem x_119_27 {ls st : List Value} {h : Hp}  : ex 119 27 ls (st) h = ex 119 29 ls (.int (118) :: st) h := x_bipush hc_119 dX8_reads_27 rfl (by decide)
theorem x_119_29 {ls st : List Value} {h : Hp} {x z : Int32} : ex 119 29 ls (.int z :: .int x :: st) h = if x = z then ex 119 32 ls st h else ex 119 36 ls st h := x_icmp_ne hc_119 dX8_reads_29 rfl (by decide)
theorem x_119_32 {ls st : List Value} {h : Hp}  : ex 119 32 ls (st) h = ex 119 33 ls (.int (1) :: st) h := x_iconst hc_119 dX8_reads_32 rfl (by decide)
theorem x_119_33 {ls st : List Value} {h : Hp}  : ex 119 33 ls (st) h = ex 119 37 ls st h := x_goto hc_119 dX8_reads_33 (by decide)
theorem x_119_36 {ls st : List Value} {h : Hp}  : ex 119 36 ls (st) h = ex 119 37 ls (.int (0) :: st) h := x_iconst hc_119 dX8_reads_36 rfl (by decide)
theorem x_119_37 {ls st : List Value} {h : Hp} {k : Nat} {x u : Int32} : ex 119 37 ls (.int u :: .int x :: .ref k :: st) h = if kd k = 9 ∧ x.toNatClampNeg < ln k ∧ 0 ≤ x then ex 119 38 ls st (hu h k x.toNatClampNeg u) else none := x_iast hc_119 dX8_reads_37 rfl
theorem x_119_38 {ls st : List Value} {h : Hp}  : ex 119 38 ls (st) h = gA (ldA ls 0) 119 39 ls st h := x_aload_n hc_119 dX8_reads_38 rfl rfl
theorem x_119_39 {ls st : List Value} {h : Hp}  : ex 119 39 ls (st) h = gA (ldA ls 0) 119 40 ls st h := x_aload_n hc_119 dX8_reads_39 rfl rfl
theorem x_119_40 {ls st : List Value} {h : Hp} {k : Nat} : ex 119 40 ls (.ref k :: st) h = if kd k = 8 then ex 119 43 ls (vl h k 39 :: st) h else none := x_getf hc_119 dX8_reads_40 rfl fr_8_102
theorem x_119_43 {ls st : List Value} {h : Hp}  : ex 119 43 ls (st) h = gI (ldI ls 1) 119 44 ls st h := x_iload_n hc_119 dX8_reads_43 rfl rfl
theorem x_119_44 {ls st : List Value} {h : Hp} {k : Nat} {x : Int32} : ex 119 44 ls (.int x :: .ref k :: st) h = if kd k = 9 ∧ x.toNatClampNeg < ln k ∧ 0 ≤ x then ex 119 45 ls (.int (h k x.toNatClampNeg) :: st) h else none := x_iald hc_119 dX8_reads_44 rfl
theorem x_119_45 {ls st : List Value} {h : Hp}  : ex 119 45 ls (st) h = ex 119 46 ls (.int (1) :: st) h := x_iconst hc_119 dX8_reads_45 rfl (by decide)
theorem x_119_46 {ls st : List Value} {h : Hp} {x z : Int32} : ex 119 46 ls (.int z :: .int x :: st) h = if x = z then ex 119 49 ls st h else ex 119 54 ls st h := x_icmp_ne hc_119 dX8_reads_46 rfl (by decide)
theorem x_119_49 {ls st : List Value} {h : Hp}  : ex 119 49 ls (st) h = ex 119 51 ls (.ref 700 :: st) h := x_ldcS (q := 0) hc_119 dX8_reads_49 rfl (by decide +kernel) (by decide +kernel)
theorem x_119_51 {ls st : List Value} {h : Hp}  : ex 119 51 ls (st) h = ex 119 56 ls st h := x_goto hc_119 dX8_reads_51 (by decide)
theorem x_119_54 {ls st : List Value} {h : Hp}  : ex 119 54 ls (st) h = ex 119 56 ls (.ref 701 :: st) h := x_ldcS (q := 1) hc_119 dX8_reads_54 rfl (by decide +kernel) (by decide +kernel)
theorem x_119_56 {ls st : List Value} {h : Hp} {k : Nat} {a0 : Nat} : ex 119 56 ls (.ref a0 :: .ref k :: st) h = if kd k = 8 ∧ st.length ≤ 4 then gC (ex 121 0 [.ref k, .ref a0, .null] [] h) 119 59 ls st else none := x_callV (as := [.ref a0]) hc_119 dX8_reads_56 rfl mr_8_215 rfl rfl rfl (by decide) (by decide)
theorem x_119_59 {ls st : List Value} {h : Hp}  : ex 119 59 ls (st) h = gA (ldA ls 0) 119 60 ls st h := x_aload_n hc_119 dX8_reads_59 rfl rfl
theorem x_119_60 {ls st : List Value} {h : Hp} {k : Nat} : ex 119 60 ls (.ref k :: st) h = if kd k = 8 then ex 119 63 ls (vl h k 40 :: st) h else none := x_getf hc_119 dX8_reads_60 rfl fr_8_105
theorem x_119_63 {ls st : List Value} {h : Hp}  : ex 119 63 ls (st) h = gI (ldI ls 1) 119 64 ls st h := x_iload_n hc_119 dX8_reads_63 rfl rfl
theorem x_119_64 {ls st : List Value} {h : Hp}  : ex 119 64 ls (st) h = gA (ldA ls 0) 119 65 ls st h := x_aload_n hc_119 dX8_reads_64 rfl rfl
theorem x_119_65 {ls st : List Value} {h : Hp} {k : Nat}  : ex 119 65 ls (.ref k :: st) h = if kd k = 8 ∧ st.length ≤ 4 then gC (ex 122 0 [.ref k, .null, .null] [] h) 119 68 ls st else none := x_callV (as := []) hc_119 dX8_reads_65 rfl mr_8_223 rfl rfl rfl (by decide) (by decide)
theorem x_119_68 {ls st : List Value} {h : Hp} {k : Nat} {x u : Int32} : ex 119 68 ls (.int u :: .int x :: .ref k :: st) h = if kd k = 9 ∧ x.toNatClampNeg < ln k ∧ 0 ≤ x then ex 119 69 ls st (hu h k x.toNatClampNeg u) else none := x_iast hc_119 dX8_reads_68 rfl
theorem x_119_69 {ls st : List Value} {h : Hp}  : ex 119 69 ls (st) h = gA (ldA ls 0) 119 70 ls st h := x_aload_n hc_119 dX8_reads_69 rfl rfl
theorem x_119_70 {ls st : List Value} {h : Hp} {k : Nat} : ex 119 70 ls (.ref k :: st) h = if kd k = 8 then ex 119 73 ls (vl h k 53 :: st) h else none := x_getf hc_119 dX8_reads_70 rfl fr_8_194
theorem x_119_73 {ls st : List Value} {h : Hp}  : ex 119 73 ls (st) h = ex 119 74 ls (.int (-1) :: st) h := x_iconst hc_119 dX8_reads_73 rfl (by decide)
theorem x_119_74 {ls st : List Value} {h : Hp} {x z : Int32} : ex 119 74 ls (.int z :: .int x :: st) h = if x = z then ex 119 77 ls st h else ex 119 317 ls st h := x_icmp_ne hc_119 dX8_reads_74 rfl (by decide)
theorem x_119_77 {ls st : List Value} {h : Hp}  : ex 119 77 ls (st) h = gA (ldA ls 0) 119 78 ls st h := x_aload_n hc_119 dX8_reads_77 rfl rfl
theorem x_119_78 {ls st : List Value} {h : Hp} {k : Nat} : ex 119 78 ls (.ref k :: st) h = if kd k = 8 then ex 119 81 ls (vl h k 52 :: st) h else none := x_getf hc_119 dX8_reads_78 rfl fr_8_197
theorem x_119_81 {ls st : List Value} {h : Hp}  : ex 119 81 ls (st) h = gA (ldA ls 0) 119 82 ls st h := x_aload_n hc_119 dX8_reads_81 rfl rfl
theorem x_119_82 {ls st : List Value} {h : Hp} {k : Nat} : ex 119 82 ls (.ref k :: st) h = if kd k = 8 then ex 119 85 ls (vl h k 4 :: st) h else none := x_getf hc_119 dX8_reads_82 rfl fr_8_185
theorem x_119_85 {ls st : List Value} {h : Hp} {x z : Int32} : ex 119 85 ls (.int z :: .int x :: st) h = if x < z then ex 119 88 ls st h else ex 119 317 ls st h := x_icmp_ge hc_119 dX8_reads_85 rfl (by decide)
theorem x_119_88 {ls st : List Value} {h : Hp}  : ex 119 88 ls (st) h = gA (ldA ls 0) 119 89 ls st h := x_aload_n hc_119 dX8_reads_88 rfl rfl
theorem x_119_89 {ls st : List Value} {h : Hp} {k : Nat} : ex 119 89 ls (.ref k :: st) h = if kd k = 8 then ex 119 92 ls (vl h k 43 :: st) h else none := x_getf hc_119 dX8_reads_89 rfl fr_8_114
theorem x_119_92 {ls st : List Value} {h : Hp}  : ex 119 92 ls (st) h = gI (ldI ls 1) 119 93 ls st h := x_iload_n hc_119 dX8_reads_92 rfl rfl
theorem x_119_93 {ls st : List Value} {h : Hp} {k : Nat} {x : Int32} : ex 119 93 ls (.int x :: .ref k :: st) h = if kd k = 9 ∧ x.toNatClampNeg < ln k ∧ 0 ≤ x then ex 119 94 ls (.int (h k x.toNatClampNeg) :: st) h else none := x_iald hc_119 dX8_reads_93 rfl
theorem x_119_94 {ls st : List Value} {h : Hp} {x : Int32} : ex 119 94 ls (.int x :: st) h = ex 119 95 (ls.set 2 (.int x)) st h := x_istore_n hc_119 dX8_reads_94 rfl rfl (by decide)
theorem x_119_95 {ls st : List Value} {h : Hp}  : ex 119 95 ls (st) h = gI (ldI ls 2) 119 96 ls st h := x_iload_n hc_119 dX8_reads_95 rfl rfl
theorem x_119_96 {ls st : List Value} {h : Hp}  : ex 119 96 ls (st) h = ex 119 97 ls (.int (3) :: st) h := x_iconst hc_119 dX8_reads_96 rfl (by decide)
theorem x_119_97 {ls st : List Value} {h : Hp} {x z : Int32} : ex 119 97 ls (.int z :: .int x :: st) h = if x = z then ex 119 100 ls st h else ex 119 109 ls st h := x_icmp_ne hc_119 dX8_reads_97 rfl (by decide)
theorem x_119_100 {ls st : List Value} {h : Hp}  : ex 119 100 ls (st) h = gA (ldA ls 0) 119 101 ls st h := x_aload_n hc_119 dX8_reads_100 rfl rfl
theorem x_119_101 {ls st : List Value} {h : Hp}  : ex 119 101 ls (st) h = gA (ldA ls 0) 119 102 ls st h := x_aload_n hc_119 dX8_reads_101 rfl rfl
theorem x_119_102 {ls st : List Value} {h : Hp} {k : Nat} : ex 119 102 ls (.ref k :: st) h = if kd k = 8 then ex 119 105 ls (vl h k 52 :: st) h else none := x_getf hc_119 dX8_reads_102 rfl fr_8_197
theorem x_119_105 {ls st : List Value} {h : Hp} {k : Nat} {x : Int32} : ex 119 105 ls (.int x :: .ref k :: st) h = if kd k = 8 then ex 119 108 ls st (hu h k 53 x) else none := x_putf hc_119 dX8_reads_105 rfl fr_8_194 (by decide)
theorem x_119_108 {ls : List Value} {h : Hp} : ex 119 108 ls [] h = some (none, h) := x_vret hc_119 dX8_reads_108 rfl
theorem x_119_109 {ls st : List Value} {h : Hp}  : ex 119 109 ls (st) h = gA (ldA ls 0) 119 110 ls st h := x_aload_n hc_119 dX8_reads_109 rfl rfl
theorem x_119_110 {ls st : List Value} {h : Hp}  : ex 119 110 ls (st) h = gI (ldI ls 2) 119 111 ls st h := x_iload_n hc_119 dX8_reads_110 rfl rfl
theorem x_119_111 {ls st : List Value} {h : Hp} {x : Int32} : ex 119 111 ls (.int x :: st) h = if x = 0 then ex 119 114 ls st h else ex 119 119 ls st h := x_if_ne hc_119 dX8_reads_111 rfl (by decide)
theorem x_119_114 {ls st : List Value} {h : Hp}  : ex 119 114 ls (st) h = ex 119 116 ls (.ref 702 :: st) h := x_ldcS (q := 2) hc_119 dX8_reads_114 rfl (by decide +kernel) (by decide +kernel)
theorem x_119_116 {ls st : List Value} {h : Hp}  : ex 119 116 ls (st) h = ex 119 121 ls st h := x_goto hc_119 dX8_reads_116 (by decide)
theorem x_119_119 {ls st : List Value} {h : Hp}  : ex 119 119 ls (st) h = ex 119 121 ls (.ref 703 :: st) h := x_ldcS (q := 3) hc_119 dX8_reads_119 rfl (by decide +kernel) (by decide +kernel)
theorem x_119_121 {ls st : List Value} {h : Hp} {k : Nat} {a0 : Nat} : ex 119 121 ls (.ref a0 :: .ref k :: st) h = if kd k = 8 ∧ st.length ≤ 4 then gC (ex 121 0 [.ref k, .ref a0, .null] [] h) 119 124 ls st else none := x_callV (as := [.ref a0]) hc_119 dX8_reads_121 rfl mr_8_215 rfl rfl rfl (by decide) (by decide)
theorem x_119_124 {ls st : List Value} {h : Hp}  : ex 119 124 ls (st) h = ex 119 125 ls (.int (3) :: st) h := x_iconst hc_119 dX8_reads_124 rfl (by decide)
theorem x_119_125 {ls st : List Value} {h : Hp}  : ex 119 125 ls (st) h = gI (ldI ls 1) 119 126 ls st h := x_iload_n hc_119 dX8_reads_125 rfl rfl
theorem x_119_126 {ls st : List Value} {h : Hp} {a b : Int32} : ex 119 126 ls (.int b :: .int a :: st) h = ex 119 127 ls (.int (a * b) :: st) h := x_imul hc_119 dX8_reads_126 rfl
theorem x_119_127 {ls st : List Value} {h : Hp}  : ex 119 127 ls (st) h = gI (ldI ls 2) 119 128 ls st h := x_iload_n hc_119 dX8_reads_127 rfl rfl
theorem x_119_128 {ls st : List Value} {h : Hp} {a b : Int32} : ex 119 128 ls (.int b :: .int a :: st) h = ex 119 129 ls (.int (a + b) :: st) h := x_iadd hc_119 dX8_reads_128 rfl
theorem x_119_129 {ls st : List Value} {h : Hp} {x : Int32} : ex 119 129 ls (.int x :: st) h = ex 119 130 (ls.set 3 (.int x)) st h := x_istore_n hc_119 dX8_reads_129 rfl rfl (by decide)
theorem x_119_130 {ls st : List Value} {h : Hp}  : ex 119 130 ls (st) h = gA (ldA ls 0) 119 131 ls st h := x_aload_n hc_119 dX8_reads_130 rfl rfl
theorem x_119_131 {ls st : List Value} {h : Hp} {k : Nat} : ex 119 131 ls (.ref k :: st) h = if kd k = 8 then ex 119 134 ls (vl h k 53 :: st) h else none := x_getf hc_119 dX8_reads_131 rfl fr_8_194
theorem x_119_134 {ls st : List Value} {h : Hp}  : ex 119 134 ls (st) h = ex 119 135 ls (.int (-1) :: st) h := x_iconst hc_119 dX8_reads_134 rfl (by decide)
theorem x_119_135 {ls st : List Value} {h : Hp} {x z : Int32} : ex 119 135 ls (.int z :: .int x :: st) h = if x = z then ex 119 138 ls st h else ex 119 148 ls st h := x_icmp_ne hc_119 dX8_reads_135 rfl (by decide)
theorem x_119_138 {ls st : List Value} {h : Hp}  : ex 119 138 ls (st) h = gA (ldA ls 0) 119 139 ls st h := x_aload_n hc_119 dX8_reads_138 rfl rfl
theorem x_119_139 {ls st : List Value} {h : Hp} {k : Nat} : ex 119 139 ls (.ref k :: st) h = if kd k = 8 then ex 119 142 ls (vl h k 44 :: st) h else none := x_getf hc_119 dX8_reads_139 rfl fr_8_117
theorem x_119_142 {ls st : List Value} {h : Hp}  : ex 119 142 ls (st) h = gI (ldI ls 3) 119 143 ls st h := x_iload_n hc_119 dX8_reads_142 rfl rfl
theorem x_119_143 {ls st : List Value} {h : Hp}  : ex 119 143 ls (st) h = gA (ldA ls 0) 119 144 ls st h := x_aload_n hc_119 dX8_reads_143 rfl rfl
theorem x_119_144 {ls st : List Value} {h : Hp} {k : Nat}  : ex 119 144 ls (.ref k :: st) h = if kd k = 8 ∧ st.length ≤ 4 then gC (ex 123 0 [.ref k, .null, .null] [] h) 119 147 ls st else none := x_callV (as := []) hc_119 dX8_reads_144 rfl mr_8_230 rfl rfl rfl (by decide) (by decide)
theorem x_119_147 {ls st : List Value} {h : Hp} {k : Nat} {x u : Int32} : ex 119 147 ls (.int u :: .int x :: .ref k :: st) h = if kd k = 9 ∧ x.toNatClampNeg < ln k ∧ 0 ≤ x then ex 119 148 ls st (hu h k x.toNatClampNeg u) else none := x_iast hc_119 dX8_reads_147 rfl
theorem x_119_148 {ls st : List Value} {h : Hp}  : ex 119 148 ls (st) h = gA (ldA ls 0) 119 149 ls st h := x_aload_n hc_119 dX8_reads_148 rfl rfl
theorem x_119_149 {ls st : List Value} {h : Hp} {k : Nat} : ex 119 149 ls (.ref k :: st) h = if kd k = 8 then ex 119 152 ls (vl h k 53 :: st) h else none := x_getf hc_119 dX8_reads_149 rfl fr_8_194
theorem x_119_152 {ls st : List Value} {h : Hp}  : ex 119 152 ls (st) h = ex 119 153 ls (.int (-1) :: st) h := x_iconst hc_119 dX8_reads_152 rfl (by decide)
theorem x_119_153 {ls st : List Value} {h : Hp} {x z : Int32} : ex 119 153 ls (.int z :: .int x :: st) h = if x = z then ex 119 156 ls st h else ex 119 237 ls st h := x_icmp_ne hc_119 dX8_reads_153 rfl (by decide)
theorem x_119_156 {ls st : List Value} {h : Hp}  : ex 119 156 ls (st) h = gA (ldA ls 0) 119 157 ls st h := x_aload_n hc_119 dX8_reads_156 rfl rfl
theorem x_119_157 {ls st : List Value} {h : Hp}  : ex 119 157 ls (st) h = gA (ldA ls 0) 119 158 ls st h := x_aload_n hc_119 dX8_reads_157 rfl rfl
theorem x_119_158 {ls st : List Value} {h : Hp} {k : Nat} : ex 119 158 ls (.ref k :: st) h = if kd k = 8 then ex 119 161 ls (vl h k 52 :: st) h else none := x_getf hc_119 dX8_reads_158 rfl fr_8_197
theorem x_119_161 {ls st : List Value} {h : Hp} {k : Nat} {a0 : Int32} : ex 119 161 ls (.int a0 :: .ref k :: st) h = if kd k = 8 ∧ st.length ≤ 4 then gC (ex 120 0 [.ref k, .int a0] [] h) 119 164 ls st else none := x_callV (as := [.int a0]) hc_119 dX8_reads_161 rfl mr_8_200 rfl rfl rfl (by decide) (by decide)
theorem x_119_164 {ls st : List Value} {h : Hp} {x : Int32} : ex 119 164 ls (.int x :: st) h = ex 119 166 (ls.set 4 (.int x)) st h := x_istore hc_119 dX8_reads_164 rfl (by decide)
theorem x_119_166 {ls st : List Value} {h : Hp}  : ex 119 166 ls (st) h = gA (ldA ls 0) 119 167 ls st h := x_aload_n hc_119 dX8_reads_166 rfl rfl
theorem x_119_167 {ls st : List Value} {h : Hp} {k : Nat} : ex 119 167 ls (.ref k :: st) h = if kd k = 8 then ex 119 170 ls (vl h k 45 :: st) h else none := x_getf hc_119 dX8_reads_167 rfl fr_8_120
theorem x_119_170 {ls st : List Value} {h : Hp}  : ex 119 170 ls (st) h = gI (ldI ls 3) 119 171 ls st h := x_iload_n hc_119 dX8_reads_170 rfl rfl
theorem x_119_171 {ls st : List Value} {h : Hp}  : ex 119 171 ls (st) h = gI (ldI ls 4) 119 173 ls st h := x_iload hc_119 dX8_reads_171 rfl
theorem x_119_173 {ls st : List Value} {h : Hp}  : ex 119 173 ls (st) h = ex 119 175 ls (.int (61) :: st) h := x_bipush hc_119 dX8_reads_173 rfl (by decide)
theorem x_119_175 {ls st : List Value} {h : Hp} {x z : Int32} : ex 119 175 ls (.int z :: .int x :: st) h = if x = z then ex 119 178 ls st h else ex 119 182 ls st h := x_icmp_ne hc_119 dX8_reads_175 rfl (by decide)
theorem x_119_178 {ls st : List Value} {h : Hp}  : ex 119 178 ls (st) h = ex 119 179 ls (.int (0) :: st) h := x_iconst hc_119 dX8_reads_178 rfl (by decide)
theorem x_119_179 {ls st : List Value} {h : Hp}  : ex 119 179 ls (st) h = ex 119 194 ls st h := x_goto hc_119 dX8_reads_179 (by decide)
theorem x_119_182 {ls st : List Value} {h : Hp}  : ex 119 182 ls (st) h = gI (ldI ls 4) 119 184 ls st h := x_iload hc_119 dX8_reads_182 rfl
theorem x_119_184 {ls st : List Value} {h : Hp}  : ex 119 184 ls (st) h = ex 119 186 ls (.int (60) :: st) h := x_bipush hc_119 dX8_reads_184 rfl (by decide)
theorem x_119_186 {ls st : List Value} {h : Hp} {x z : Int32} : ex 119 186 ls (.int z :: .int x :: st) h = if x = z then ex 119 189 ls st h else ex 119 193 ls st h := x_icmp_ne hc_119 dX8_reads_186 rfl (by decide)
theorem x_119_189 {ls st : List Value} {h : Hp}  : ex 119 189 ls (st) h = ex 119 190 ls (.int (-1) :: st) h := x_iconst hc_119 dX8_reads_189 rfl (by decide)
theorem x_119_190 {ls st : List Value} {h : Hp}  : ex 119 190 ls (st) h = ex 119 194 ls st h := x_goto hc_119 dX8_reads_190 (by decide)
theorem x_119_193 {ls st : List Value} {h : Hp}  : ex 119 193 ls (st) h = ex 119 194 ls (.int (1) :: st) h := x_iconst hc_119 dX8_reads_193 rfl (by decide)
theorem x_119_194 {ls st : List Value} {h : Hp} {k : Nat} {x u : Int32} : ex 119 194 ls (.int u :: .int x :: .ref k :: st) h = if kd k = 9 ∧ x.toNatClampNeg < ln k ∧ 0 ≤ x then ex 119 195 ls st (hu h k x.toNatClampNeg u) else none := x_iast hc_119 dX8_reads_194 rfl
theorem x_119_195 {ls st : List Value} {h : Hp}  : ex 119 195 ls (st) h = gI (ldI ls 4) 119 197 ls st h := x_iload hc_119 dX8_reads_195 rfl
theorem x_119_197 {ls st : List Value} {h : Hp}  : ex 119 197 ls (st) h = ex 119 199 ls (.int (61) :: st) h := x_bipush hc_119 dX8_reads_197 rfl (by decide)
theorem x_119_199 {ls st : List Value} {h : Hp} {x z : Int32} : ex 119 199 ls (.int z :: .int x :: st) h = if x = z then ex 119 216 ls st h else ex 119 202 ls st h := x_icmp_eq hc_119 dX8_reads_199 rfl (by decide)
theorem x_119_202 {ls st : List Value} {h : Hp}  : ex 119 202 ls (st) h = gI (ldI ls 4) 119 204 ls st h := x_iload hc_119 dX8_reads_202 rfl
theorem x_119_204 {ls st : List Value} {h : Hp}  : ex 119 204 ls (st) h = ex 119 206 ls (.int (60) :: st) h := x_bipush hc_119 dX8_reads_204 rfl (by decide)
theorem x_119_206 {ls st : List Value} {h : Hp} {x z : Int32} : ex 119 206 ls (.int z :: .int x :: st) h = if x = z then ex 119 216 ls st h else ex 119 209 ls st h := x_icmp_eq hc_119 dX8_reads_206 rfl (by decide)
theorem x_119_209 {ls st : List Value} {h : Hp}  : ex 119 209 ls (st) h = gI (ldI ls 4) 119 211 ls st h := x_iload hc_119 dX8_reads_209 rfl
theorem x_119_211 {ls st : List Value} {h : Hp}  : ex 119 211 ls (st) h = ex 119 213 ls (.int (62) :: st) h := x_bipush hc_119 dX8_reads_211 rfl (by decide)
theorem x_119_213 {ls st : List Value} {h : Hp} {x z : Int32} : ex 119 213 ls (.int z :: .int x :: st) h = if x = z then ex 119 216 ls st h else ex 119 229 ls st h := x_icmp_ne hc_119 dX8_reads_213 rfl (by decide)
theorem x_119_216 {ls st : List Value} {h : Hp}  : ex 119 216 ls (st) h = gA (ldA ls 0) 119 217 ls st h := x_aload_n hc_119 dX8_reads_216 rfl rfl
theorem x_119_217i {ls st : List Value} {h : Hp} {u : Int32} : ex 119 217 ls (.int u :: st) h = ex 119 218 ls (.int u :: .int u :: st) h := x_dup_i hc_119 dX8_reads_217 rfl
theorem x_119_217a {ls st : List Value} {h : Hp} {u : Nat} : ex 119 217 ls (.ref u :: st) h = ex 119 218 ls (.ref u :: .ref u :: st) h := x_dup_a hc_119 dX8_reads_217 rfl
theorem x_119_218 {ls st : List Value} {h : Hp} {k : Nat} : ex 119 218 ls (.ref k :: st) h = if kd k = 8 then ex 119 221 ls (vl h k 52 :: st) h else none := x_getf hc_119 dX8_reads_218 rfl fr_8_197
theorem x_119_221 {ls st : List Value} {h : Hp}  : ex 119 221 ls (st) h = ex 119 222 ls (.int (1) :: st) h := x_iconst hc_119 dX8_reads_221 rfl (by decide)
theorem x_119_222 {ls st : List Value} {h : Hp} {a b : Int32} : ex 119 222 ls (.int b :: .int a :: st) h = ex 119 223 ls (.int (a + b) :: st) h := x_iadd hc_119 dX8_reads_222 rfl
theorem x_119_223 {ls st : List Value} {h : Hp} {k : Nat} {x : Int32} : ex 119 223 ls (.int x :: .ref k :: st) h = if kd k = 8 then ex 119 226 ls st (hu h k 52 x) else none := x_putf hc_119 dX8_reads_223 rfl fr_8_197 (by decide)
theorem x_119_226 {ls st : List Value} {h : Hp}  : ex 119 226 ls (st) h = ex 119 237 ls st h := x_goto hc_119 dX8_reads_226 (by decide)
theorem x_119_229 {ls st : List Value} {h : Hp}  : ex 119 229 ls (st) h = gA (ldA ls 0) 119 230 ls st h := x_aload_n hc_119 dX8_reads_229 rfl rfl
theorem x_119_230 {ls st : List Value} {h : Hp}  : ex 119 230 ls (st) h = gA (ldA ls 0) 119 231 ls st h := x_aload_n hc_119 dX8_reads_230 rfl rfl
theorem x_119_231 {ls st : List Value} {h : Hp} {k : Nat} : ex 119 231 ls (.ref k :: st) h = if kd k = 8 then ex 119 234 ls (vl h k 52 :: st) h else none := x_getf hc_119 dX8_reads_231 rfl fr_8_197
theorem x_119_234 {ls st : List Value} {h : Hp} {k : Nat} {x : Int32} : ex 119 234 ls (.int x :: .ref k :: st) h = if kd k = 8 then ex 119 237 ls st (hu h k 53 x) else none := x_putf hc_119 dX8_reads_234 rfl fr_8_194 (by decide)
theorem x_119_237 {ls st : List Value} {h : Hp}  : ex 119 237 ls (st) h = gA (ldA ls 0) 119 238 ls st h := x_aload_n hc_119 dX8_reads_237 rfl rfl
theorem x_119_238 {ls st : List Value} {h : Hp} {k : Nat} : ex 119 238 ls (.ref k :: st) h = if kd k = 8 then ex 119 241 ls (vl h k 53 :: st) h else none := x_getf hc_119 dX8_reads_238 rfl fr_8_194
theorem x_119_241 {ls st : List Value} {h : Hp}  : ex 119 241 ls (st) h = ex 119 242 ls (.int (-1) :: st) h := x_iconst hc_119 dX8_reads_241 rfl (by decide)
theorem x_119_242 {ls st : List Value} {h : Hp} {x z : Int32} : ex 119 242 ls (.int z :: .int x :: st) h = if x = z then ex 119 245 ls st h else ex 119 262 ls st h := x_icmp_ne hc_119 dX8_reads_242 rfl (by decide)
theorem x_119_245 {ls st : List Value} {h : Hp}  : ex 119 245 ls (st) h = gA (ldA ls 0) 119 246 ls st h := x_aload_n hc_119 dX8_reads_245 rfl rfl
theorem x_119_246 {ls st : List Value} {h : Hp}  : ex 119 246 ls (st) h = gA (ldA ls 0) 119 247 ls st h := x_aload_n hc_119 dX8_reads_246 rfl rfl
theorem x_119_247 {ls st : List Value} {h : Hp} {k : Nat} : ex 119 247 ls (.ref k :: st) h = if kd k = 8 then ex 119 250 ls (vl h k 52 :: st) h else none := x_getf hc_119 dX8_reads_247 rfl fr_8_197
theorem x_119_250 {ls st : List Value} {h : Hp} {k : Nat} {a0 : Int32} : ex 119 250 ls (.int a0 :: .ref k :: st) h = if kd k = 8 ∧ st.length ≤ 4 then gC (ex 120 0 [.ref k, .int a0] [] h) 119 253 ls st else none := x_callV (as := [.int a0]) hc_119 dX8_reads_250 rfl mr_8_200 rfl rfl rfl (by decide) (by decide)
theorem x_119_253 {ls st : List Value} {h : Hp}  : ex 119 253 ls (st) h = ex 119 255 ls (.int (45) :: st) h := x_bipush hc_119 dX8_reads_253 rfl (by decide)
theorem x_119_255 {ls st : List Value} {h : Hp} {x z : Int32} : ex 119 255 ls (.int z :: .int x :: st) h = if x = z then ex 119 258 ls st h else ex 119 262 ls st h := x_icmp_ne hc_119 dX8_reads_255 rfl (by decide)
theorem x_119_258 {ls st : List Value} {h : Hp}  : ex 119 258 ls (st) h = ex 119 259 ls (.int (1) :: st) h := x_iconst hc_119 dX8_reads_258 rfl (by decide)
theorem x_119_259 {ls st : List Value} {h : Hp}  : ex 119 259 ls (st) h = ex 119 263 ls st h := x_goto hc_119 dX8_reads_259 (by decide)
theorem x_119_262 {ls st : List Value} {h : Hp}  : ex 119 262 ls (st) h = ex 119 263 ls (.int (0) :: st) h := x_iconst hc_119 dX8_reads_262 rfl (by decide)
theorem x_119_263 {ls st : List Value} {h : Hp} {x : Int32} : ex 119 263 ls (.int x :: st) h = ex 119 265 (ls.set 4 (.int x)) st h := x_istore hc_119 dX8_reads_263 rfl (by decide)
theorem x_119_265 {ls st : List Value} {h : Hp}  : ex 119 265 ls (st) h = gI (ldI ls 4) 119 267 ls st h := x_iload hc_119 dX8_reads_265 rfl
theorem x_119_267 {ls st : List Value} {h : Hp} {x : Int32} : ex 119 267 ls (.int x :: st) h = if x = 0 then ex 119 280 ls st h else ex 119 270 ls st h := x_if_eq hc_119 dX8_reads_267 rfl (by decide)
theorem x_119_270 {ls st : List Value} {h : Hp}  : ex 119 270 ls (st) h = gA (ldA ls 0) 119 271 ls st h := x_aload_n hc_119 dX8_reads_270 rfl rfl
theorem x_119_271i {ls st : List Value} {h : Hp} {u : Int32} : ex 119 271 ls (.int u :: st) h = ex 119 272 ls (.int u :: .int u :: st) h := x_dup_i hc_119 dX8_reads_271 rfl
theorem x_119_271a {ls st : List Value} {h : Hp} {u : Nat} : ex 119 271 ls (.ref u :: st) h = ex 119 272 ls (.ref u :: .ref u :: st) h := x_dup_a hc_119 dX8_reads_271 rfl
theorem x_119_272 {ls st : List Value} {h : Hp} {k : Nat} : ex 119 272 ls (.ref k :: st) h = if kd k = 8 then ex 119 275 ls (vl h k 52 :: st) h else none := x_getf hc_119 dX8_reads_272 rfl fr_8_197
theorem x_119_275 {ls st : List Value} {h : Hp}  : ex 119 275 ls (st) h = ex 119 276 ls (.int (1) :: st) h := x_iconst hc_119 dX8_reads_275 rfl (by decide)
theorem x_119_276 {ls st : List Value} {h : Hp} {a b : Int32} : ex 119 276 ls (.int b :: .int a :: st) h = ex 119 277 ls (.int (a + b) :: st) h := x_iadd hc_119 dX8_reads_276 rfl
theorem x_119_277 {ls st : List Value} {h : Hp} {k : Nat} {x : Int32} : ex 119 277 ls (.int x :: .ref k :: st) h = if kd k = 8 then ex 119 280 ls st (hu h k 52 x) else none := x_putf hc_119 dX8_reads_277 rfl fr_8_197 (by decide)
theorem x_119_280 {ls st : List Value} {h : Hp}  : ex 119 280 ls (st) h = gA (ldA ls 0) 119 281 ls st h := x_aload_n hc_119 dX8_reads_280 rfl rfl
theorem x_119_281 {ls st : List Value} {h : Hp} {k : Nat}  : ex 119 281 ls (.ref k :: st) h = if kd k = 8 ∧ st.length ≤ 4 then gC (ex 122 0 [.ref k, .null, .null] [] h) 119 284 ls st else none := x_callV (as := []) hc_119 dX8_reads_281 rfl mr_8_223 rfl rfl rfl (by decide) (by decide)
theorem x_119_284 {ls st : List Value} {h : Hp} {x : Int32} : ex 119 284 ls (.int x :: st) h = ex 119 286 (ls.set 5 (.int x)) st h := x_istore hc_119 dX8_reads_284 rfl (by decide)
theorem x_119_286 {ls st : List Value} {h : Hp}  : ex 119 286 ls (st) h = gA (ldA ls 0) 119 287 ls st h := x_aload_n hc_119 dX8_reads_286 rfl rfl
theorem x_119_287 {ls st : List Value} {h : Hp} {k : Nat} : ex 119 287 ls (.ref k :: st) h = if kd k = 8 then ex 119 290 ls (vl h k 46 :: st) h else none := x_getf hc_119 dX8_reads_287 rfl fr_8_123
theorem x_119_290 {ls st : List Value} {h : Hp}  : ex 119 290 ls (st) h = gI (ldI ls 3) 119 291 ls st h := x_iload_n hc_119 dX8_reads_290 rfl rfl
theorem x_119_291 {ls st : List Value} {h : Hp}  : ex 119 291 ls (st) h = gI (ldI ls 4) 119 293 ls st h := x_iload hc_119 dX8_reads_291 rfl
theorem x_119_293 {ls st : List Value} {h : Hp} {x : Int32} : ex 119 293 ls (.int x :: st) h = if x = 0 then ex 119 302 ls st h else ex 119 296 ls st h := x_if_eq hc_119 dX8_reads_293 rfl (by decide)
theorem x_119_296 {ls st : List Value} {h : Hp}  : ex 119 296 ls (st) h = gI (ldI ls 5) 119 298 ls st h := x_iload hc_119 dX8_reads_296 rfl
theorem x_119_298 {ls st : List Value} {h : Hp} {a : Int32} : ex 119 298 ls (.int a :: st) h = ex 119 299 ls (.int (-a) :: st) h := x_ineg hc_119 dX8_reads_298 rfl
theorem x_119_299 {ls st : List Value} {h : Hp}  : ex 119 299 ls (st) h = ex 119 304 ls st h := x_goto hc_119 dX8_reads_299 (by decide)
theorem x_119_302 {ls st : List Value} {h : Hp}  : ex 119 302 ls (st) h = gI (ldI ls 5) 119 304 ls st h := x_iload hc_119 dX8_reads_302 rfl
theorem x_119_304 {ls st : List Value} {h : Hp} {k : Nat} {x u : Int32} : ex 119 304 ls (.int u :: .int x :: .ref k :: st) h = if kd k = 9 ∧ x.toNatClampNeg < ln k ∧ 0 ≤ x then ex 119 305 ls st (hu h k x.toNatClampNeg u) else none := x_iast hc_119 dX8_reads_304 rfl
theorem x_119_305 {ls st : List Value} {h : Hp}  : ex 119 305 ls (st) h = gA (ldA ls 0) 119 306 ls st h := x_aload_n hc_119 dX8_reads_305 rfl rfl
theorem x_119_306 {ls st : List Value} {h : Hp} {k : Nat} : ex 119 306 ls (.ref k :: st) h = if kd k = 8 then ex 119 309 ls (vl h k 43 :: st) h else none := x_getf hc_119 dX8_reads_306 rfl fr_8_114
theorem x_119_309 {ls st : List Value} {h : Hp}  : ex 119 309 ls (st) h = gI (ldI ls 1) 119 310 ls st h := x_iload_n hc_119 dX8_reads_309 rfl rfl
theorem x_119_310 {ls st : List Value} {h : Hp}  : ex 119 310 ls (st) h = gI (ldI ls 2) 119 311 ls st h := x_iload_n hc_119 dX8_reads_310 rfl rfl
theorem x_119_311 {ls st : List Value} {h : Hp}  : ex 119 311 ls (st) h = ex 119 312 ls (.int (1) :: st) h := x_iconst hc_119 dX8_reads_311 rfl (by decide)
theorem x_119_312 {ls st : List Value} {h : Hp} {a b : Int32} : ex 119 312 ls (.int b :: .int a :: st) h = ex 119 313 ls (.int (a + b) :: st) h := x_iadd hc_119 dX8_reads_312 rfl
theorem x_119_313 {ls st : List Value} {h : Hp} {k : Nat} {x u : Int32} : ex 119 313 ls (.int u :: .int x :: .ref k :: st) h = if kd k = 9 ∧ x.toNatClampNeg < ln k ∧ 0 ≤ x then ex 119 314 ls st (hu h k x.toNatClampNeg u) else none := x_iast hc_119 dX8_reads_313 rfl
theorem x_119_314 {ls st : List Value} {h : Hp}  : ex 119 314 ls (st) h = ex 119 69 ls st h := x_goto hc_119 dX8_reads_314 (by decide)
theorem x_119_317 {ls : List Value} {h : Hp} : ex 119 317 ls [] h = some (none, h) := x_vret hc_119 dX8_reads_317 rfl
theorem x_120_0 {ls st : List Value} {h : Hp}  : ex 120 0 ls (st) h = gI (ldI ls 1) 120 1 ls st h := x_iload_n hc_120 dX8_byteAt_0 rfl rfl
theorem x_120_1 {ls st : List Value} {h : Hp}  : ex 120 1 ls (st) h = gA (ldA ls 0) 120 2 ls st h := x_aload_n hc_120 dX8_byteAt_1 rfl rfl
theorem x_120_2 {ls st : List Value} {h : Hp} {k : Nat} : ex 120 2 ls (.ref k :: st) h = if kd k = 8 then ex 120 5 ls (vl h k 4 :: st) h else none := x_getf hc_120 dX8_byteAt_2 rfl fr_8_185
theorem x_120_5 {ls st : List Value} {h : Hp} {x z : Int32} : ex 120 5 ls (.int z :: .int x :: st) h = if x < z then ex 120 8 ls st h else ex 120 17 ls st h := x_icmp_ge hc_120 dX8_byteAt_5 rfl (by decide)
theorem x_120_8 {ls st : List Value} {h : Hp}  : ex 120 8 ls (st) h = gA (ldA ls 0) 120 9 ls st h := x_aload_n hc_120 dX8_byteAt_8 rfl rfl
theorem x_120_9 {ls st : List Value} {h : Hp} {k : Nat} : ex 120 9 ls (.ref k :: st) h = if kd k = 8 then ex 120 12 ls (vl h k 47 :: st) h else none := x_getf hc_120 dX8_byteAt_9 rfl fr_8_126
theorem x_120_12 {ls st : List Value} {h : Hp}  : ex 120 12 ls (st) h = gI (ldI ls 1) 120 13 ls st h := x_iload_n hc_120 dX8_byteAt_12 rfl rfl
theorem x_120_13 {ls st : List Value} {h : Hp} {k : Nat} {x : Int32} : ex 120 13 ls (.int x :: .ref k :: st) h = if kd k = 9 ∧ x.toNatClampNeg < ln k ∧ 0 ≤ x then ex 120 14 ls (.int (h k x.toNatClampNeg) :: st) h else none := x_iald hc_120 dX8_byteAt_13 rfl
theorem x_120_14 {ls st : List Value} {h : Hp}  : ex 120 14 ls (st) h = ex 120 18 ls st h := x_goto hc_120 dX8_byteAt_14 (by decide)
theorem x_120_17 {ls st : List Value} {h : Hp}  : ex 120 17 ls (st) h = ex 120 18 ls (.int (-1) :: st) h := x_iconst hc_120 dX8_byteAt_17 rfl (by decide)
theorem x_120_18 {ls : List Value} {h : Hp} {v : Int32} : ex 120 18 ls [.int v] h = some (some (.int v), h) := x_iret hc_120 dX8_byteAt_18 rfl
theorem x_121_0 {ls st : List Value} {h : Hp}  : ex 121 0 ls (st) h = ex 121 1 ls (.int (0) :: st) h := x_iconst hc_121 dX8_expect_0 rfl (by decide)
theorem x_121_1 {ls st : List Value} {h : Hp} {x : Int32} : ex 121 1 ls (.int x :: st) h = ex 121 2 (ls.set 2 (.int x)) st h := x_istore_n hc_121 dX8_expect_1 rfl rfl (by decide)
theorem x_121_2 {ls st : List Value} {h : Hp}  : ex 121 2 ls (st) h = gI (ldI ls 2) 121 3 ls st h := x_iload_n hc_121 dX8_expect_2 rfl rfl
theorem x_121_3 {ls st : List Value} {h : Hp}  : ex 121 3 ls (st) h = gA (ldA ls 1) 121 4 ls st h := x_aload_n hc_121 dX8_expect_3 rfl rfl
theorem x_121_4 {ls st : List Value} {h : Hp} {k : Nat} : ex 121 4 ls (.ref k :: st) h = if (700 ≤ k ∧ k < 709) ∧ st.length ≤ 4 then ex 121 7 ls (.int (nI (sLen.getD (k - 700) 0)) :: st) h else none := x_len hc_121 dX8_expect_4 rfl mn_8_188 pr_8_188 (by decide)
theorem x_121_7 {ls st : List Value} {h : Hp} {x z : Int32} : ex 121 7 ls (.int z :: .int x :: st) h = if x < z then ex 121 10 ls st h else ex 121 61 ls st h := x_icmp_ge hc_121 dX8_expect_7 rfl (by decide)
theorem x_121_10 {ls st : List Value} {h : Hp}  : ex 121 10 ls (st) h = gA (ldA ls 0) 121 11 ls st h := x_aload_n hc_121 dX8_expect_10 rfl rfl
theorem x_121_11 {ls st : List Value} {h : Hp} {k : Nat} : ex 121 11 ls (.ref k :: st) h = if kd k = 8 then ex 121 14 ls (vl h k 53 :: st) h else none := x_getf hc_121 dX8_expect_11 rfl fr_8_194
theorem x_121_14 {ls st : List Value} {h : Hp}  : ex 121 14 ls (st) h = ex 121 15 ls (.int (-1) :: st) h := x_iconst hc_121 dX8_expect_14 rfl (by decide)
theorem x_121_15 {ls st : List Value} {h : Hp} {x z : Int32} : ex 121 15 ls (.int z :: .int x :: st) h = if x = z then ex 121 18 ls st h else ex 121 61 ls st h := x_icmp_ne hc_121 dX8_expect_15 rfl (by decide)
theorem x_121_18 {ls st : List Value} {h : Hp}  : ex 121 18 ls (st) h = gA (ldA ls 0) 121 19 ls st h := x_aload_n hc_121 dX8_expect_18 rfl rfl
theorem x_121_19 {ls st : List Value} {h : Hp}  : ex 121 19 ls (st) h = gA (ldA ls 0) 121 20 ls st h := x_aload_n hc_121 dX8_expect_19 rfl rfl
theorem x_121_20 {ls st : List Value} {h : Hp} {k : Nat} : ex 121 20 ls (.ref k :: st) h = if kd k = 8 then ex 121 23 ls (vl h k 52 :: st) h else none := x_getf hc_121 dX8_expect_20 rfl fr_8_197
theorem x_121_23 {ls st : List Value} {h : Hp} {k : Nat} {a0 : Int32} : ex 121 23 ls (.int a0 :: .ref k :: st) h = if kd k = 8 ∧ st.length ≤ 4 then gC (ex 120 0 [.ref k, .int a0] [] h) 121 26 ls st else none := x_callV (as := [.int a0]) hc_121 dX8_expect_23 rfl mr_8_200 rfl rfl rfl (by decide) (by decide)
theorem x_121_26 {ls st : List Value} {h : Hp}  : ex 121 26 ls (st) h = gA (ldA ls 1) 121 27 ls st h := x_aload_n hc_121 dX8_expect_26 rfl rfl
theorem x_121_27 {ls st : List Value} {h : Hp}  : ex 121 27 ls (st) h = gI (ldI ls 2) 121 28 ls st h := x_iload_n hc_121 dX8_expect_27 rfl rfl
theorem x_121_28 {ls st : List Value} {h : Hp} {k : Nat} {x : Int32} : ex 121 28 ls (.int x :: .ref k :: st) h = if (700 ≤ k ∧ k < 709) ∧ (x.toNatClampNeg < sLen.getD (k - 700) 0 ∧ 0 ≤ x) ∧ st.length ≤ 4 then ex 121 31 ls (.int (sCh (k - 700) x.toNatClampNeg) :: st) h else none := x_chr hc_121 dX8_expect_28 rfl mn_8_203 pr_8_203 (by decide)
theorem x_121_31 {ls st : List Value} {h : Hp} {x z : Int32} : ex 121 31 ls (.int z :: .int x :: st) h = if x = z then ex 121 34 ls st h else ex 121 47 ls st h := x_icmp_ne hc_121 dX8_expect_31 rfl (by decide)
theorem x_121_34 {ls st : List Value} {h : Hp}  : ex 121 34 ls (st) h = gA (ldA ls 0) 121 35 ls st h := x_aload_n hc_121 dX8_expect_34 rfl rfl
theorem x_121_35i {ls st : List Value} {h : Hp} {u : Int32} : ex 121 35 ls (.int u :: st) h = ex 121 36 ls (.int u :: .int u :: st) h := x_dup_i hc_121 dX8_expect_35 rfl
theorem x_121_35a {ls st : List Value} {h : Hp} {u : Nat} : ex 121 35 ls (.ref u :: st) h = ex 121 36 ls (.ref u :: .ref u :: st) h := x_dup_a hc_121 dX8_expect_35 rfl
theorem x_121_36 {ls st : List Value} {h : Hp} {k : Nat} : ex 121 36 ls (.ref k :: st) h = if kd k = 8 then ex 121 39 ls (vl h k 52 :: st) h else none := x_getf hc_121 dX8_expect_36 rfl fr_8_197
theorem x_121_39 {ls st : List Value} {h : Hp}  : ex 121 39 ls (st) h = ex 121 40 ls (.int (1) :: st) h := x_iconst hc_121 dX8_expect_39 rfl (by decide)
theorem x_121_40 {ls st : List Value} {h : Hp} {a b : Int32} : ex 121 40 ls (.int b :: .int a :: st) h = ex 121 41 ls (.int (a + b) :: st) h := x_iadd hc_121 dX8_expect_40 rfl
theorem x_121_41 {ls st : List Value} {h : Hp} {k : Nat} {x : Int32} : ex 121 41 ls (.int x :: .ref k :: st) h = if kd k = 8 then ex 121 44 ls st (hu h k 52 x) else none := x_putf hc_121 dX8_expect_41 rfl fr_8_197 (by decide)
theorem x_121_44 {ls st : List Value} {h : Hp}  : ex 121 44 ls (st) h = ex 121 55 ls st h := x_goto hc_121 dX8_expect_44 (by decide)
theorem x_121_47 {ls st : List Value} {h : Hp}  : ex 121 47 ls (st) h = gA (ldA ls 0) 121 48 ls st h := x_aload_n hc_121 dX8_expect_47 rfl rfl
theorem x_121_48 {ls st : List Value} {h : Hp}  : ex 121 48 ls (st) h = gA (ldA ls 0) 121 49 ls st h := x_aload_n hc_121 dX8_expect_48 rfl rfl
theorem x_121_49 {ls st : List Value} {h : Hp} {k : Nat} : ex 121 49 ls (.ref k :: st) h = if kd k = 8 then ex 121 52 ls (vl h k 52 :: st) h else none := x_getf hc_121 dX8_expect_49 rfl fr_8_197
theorem x_121_52 {ls st : List Value} {h : Hp} {k : Nat} {x : Int32} : ex 121 52 ls (.int x :: .ref k :: st) h = if kd k = 8 then ex 121 55 ls st (hu h k 53 x) else none := x_putf hc_121 dX8_expect_52 rfl fr_8_194 (by decide)
theorem x_121_55 {ls st : List Value} {h : Hp}  : ex 121 55 ls (st) h = gN (ldI ls 2) 121 58 ls 2 (1) st h := x_iinc hc_121 dX8_expect_55 rfl (by decide) (by decide)
theorem x_121_58 {ls st : List Value} {h : Hp}  : ex 121 58 ls (st) h = ex 121 2 ls st h := x_goto hc_121 dX8_expect_58 (by decide)
theorem x_121_61 {ls : List Value} {h : Hp} : ex 121 61 ls [] h = some (none, h) := x_vret hc_121 dX8_expect_61 rfl
theorem x_122_0 {ls st : List Value} {h : Hp}  : ex 122 0 ls (st) h = ex 122 1 ls (.int (0) :: st) h := x_iconst hc_122 dX8_number_0 rfl (by decide)
theorem x_122_1 {ls st : List Value} {h : Hp} {x : Int32} : ex 122 1 ls (.int x :: st) h = ex 122 2 (ls.set 1 (.int x)) st h := x_istore_n hc_122 dX8_number_1 rfl rfl (by decide)
theorem x_122_2 {ls st : List Value} {h : Hp}  : ex 122 2 ls (st) h = ex 122 3 ls (.int (0) :: st) h := x_iconst hc_122 dX8_number_2 rfl (by decide)
theorem x_122_3 {ls st : List Value} {h : Hp} {x : Int32} : ex 122 3 ls (.int x :: st) h = ex 122 4 (ls.set 2 (.int x)) st h := x_istore_n hc_122 dX8_number_3 rfl rfl (by decide)
theorem x_122_4 {ls st : List Value} {h : Hp}  : ex 122 4 ls (st) h = gA (ldA ls 0) 122 5 ls st h := x_aload_n hc_122 dX8_number_4 rfl rfl
theorem x_122_5 {ls st : List Value} {h : Hp} {k : Nat} : ex 122 5 ls (.ref k :: st) h = if kd k = 8 then ex 122 8 ls (vl h k 53 :: st) h else none := x_getf hc_122 dX8_number_5 rfl fr_8_194
theorem x_122_8 {ls st : List Value} {h : Hp}  : ex 122 8 ls (st) h = ex 122 9 ls (.int (-1) :: st) h := x_iconst hc_122 dX8_number_8 rfl (by decide)
theorem x_122_9 {ls st : List Value} {h : Hp} {x z : Int32} : ex 122 9 ls (.int z :: .int x :: st) h = if x = z then ex 122 12 ls st h else ex 122 76 ls st h := x_icmp_ne hc_122 dX8_number_9 rfl (by decide)
theorem x_122_12 {ls st : List Value} {h : Hp}  : ex 122 12 ls (st) h = gI (ldI ls 2) 122 13 ls st h := x_iload_n hc_122 dX8_number_12 rfl rfl
theorem x_122_13 {ls st : List Value} {h : Hp}  : ex 122 13 ls (st) h = ex 122 14 ls (.int (3) :: st) h := x_iconst hc_122 dX8_number_13 rfl (by decide)
theorem x_122_14 {ls st : List Value} {h : Hp} {x z : Int32} : ex 122 14 ls (.int z :: .int x :: st) h = if x < z then ex 122 17 ls st h else ex 122 76 ls st h := x_icmp_ge hc_122 dX8_number_14 rfl (by decide)
theorem x_122_17 {ls st : List Value} {h : Hp}  : ex 122 17 ls (st) h = gA (ldA ls 0) 122 18 ls st h := x_aload_n hc_122 dX8_number_17 rfl rfl
theorem x_122_18 {ls st : List Value} {h : Hp}  : ex 122 18 ls (st) h = gA (ldA ls 0) 122 19 ls st h := x_aload_n hc_122 dX8_number_18 rfl rfl
theorem x_122_19 {ls st : List Value} {h : Hp} {k : Nat} : ex 122 19 ls (.ref k :: st) h = if kd k = 8 then ex 122 22 ls (vl h k 52 :: st) h else none := x_getf hc_122 dX8_number_19 rfl fr_8_197
theorem x_122_22 {ls st : List Value} {h : Hp} {k : Nat} {a0 : Int32} : ex 122 22 ls (.int a0 :: .ref k :: st) h = if kd k = 8 ∧ st.length ≤ 4 then gC (ex 120 0 [.ref k, .int a0] [] h) 122 25 ls st else none := x_callV (as := [.int a0]) hc_122 dX8_number_22 rfl mr_8_200 rfl rfl rfl (by decide) (by decide)
theorem x_122_25 {ls st : List Value} {h : Hp}  : ex 122 25 ls (st) h = ex 122 27 ls (.int (48) :: st) h := x_bipush hc_122 dX8_number_25 rfl (by decide)
theorem x_122_27 {ls st : List Value} {h : Hp} {x z : Int32} : ex 122 27 ls (.int z :: .int x :: st) h = if x < z then ex 122 76 ls st h else ex 122 30 ls st h := x_icmp_lt hc_122 dX8_number_27 rfl (by decide)
theorem x_122_30 {ls st : List Value} {h : Hp}  : ex 122 30 ls (st) h = gA (ldA ls 0) 122 31 ls st h := x_aload_n hc_122 dX8_number_30 rfl rfl
theorem x_122_31 {ls st : List Value} {h : Hp}  : ex 122 31 ls (st) h = gA (ldA ls 0) 122 32 ls st h := x_aload_n hc_122 dX8_number_31 rfl rfl
theorem x_122_32 {ls st : List Value} {h : Hp} {k : Nat} : ex 122 32 ls (.ref k :: st) h = if kd k = 8 then ex 122 35 ls (vl h k 52 :: st) h else none := x_getf hc_122 dX8_number_32 rfl fr_8_197
theorem x_122_35 {ls st : List Value} {h : Hp} {k : Nat} {a0 : Int32} : ex 122 35 ls (.int a0 :: .ref k :: st) h = if kd k = 8 ∧ st.length ≤ 4 then gC (ex 120 0 [.ref k, .int a0] [] h) 122 38 ls st else none := x_callV (as := [.int a0]) hc_122 dX8_number_35 rfl mr_8_200 rfl rfl rfl (by decide) (by decide)
theorem x_122_38 {ls st : List Value} {h : Hp}  : ex 122 38 ls (st) h = ex 122 40 ls (.int (57) :: st) h := x_bipush hc_122 dX8_number_38 rfl (by decide)
theorem x_122_40 {ls st : List Value} {h : Hp} {x z : Int32} : ex 122 40 ls (.int z :: .int x :: st) h = if z < x then ex 122 76 ls st h else ex 122 43 ls st h := x_icmp_gt hc_122 dX8_number_40 rfl (by decide)
theorem x_122_43 {ls st : List Value} {h : Hp}  : ex 122 43 ls (st) h = ex 122 45 ls (.int (10) :: st) h := x_bipush hc_122 dX8_number_43 rfl (by decide)
theorem x_122_45 {ls st : List Value} {h : Hp}  : ex 122 45 ls (st) h = gI (ldI ls 1) 122 46 ls st h := x_iload_n hc_122 dX8_number_45 rfl rfl
theorem x_122_46 {ls st : List Value} {h : Hp} {a b : Int32} : ex 122 46 ls (.int b :: .int a :: st) h = ex 122 47 ls (.int (a * b) :: st) h := x_imul hc_122 dX8_number_46 rfl
theorem x_122_47 {ls st : List Value} {h : Hp}  : ex 122 47 ls (st) h = gA (ldA ls 0) 122 48 ls st h := x_aload_n hc_122 dX8_number_47 rfl rfl
theorem x_122_48 {ls st : List Value} {h : Hp}  : ex 122 48 ls (st) h = gA (ldA ls 0) 122 49 ls st h := x_aload_n hc_122 dX8_number_48 rfl rfl
theorem x_122_49 {ls st : List Value} {h : Hp} {k : Nat} : ex 122 49 ls (.ref k :: st) h = if kd k = 8 then ex 122 52 ls (vl h k 52 :: st) h else none := x_getf hc_122 dX8_number_49 rfl fr_8_197
theorem x_122_52 {ls st : List Value} {h : Hp} {k : Nat} {a0 : Int32} : ex 122 52 ls (.int a0 :: .ref k :: st) h = if kd k = 8 ∧ st.length ≤ 4 then gC (ex 120 0 [.ref k, .int a0] [] h) 122 55 ls st else none := x_callV (as := [.int a0]) hc_122 dX8_number_52 rfl mr_8_200 rfl rfl rfl (by decide) (by decide)
theorem x_122_55 {ls st : List Value} {h : Hp} {a b : Int32} : ex 122 55 ls (.int b :: .int a :: st) h = ex 122 56 ls (.int (a + b) :: st) h := x_iadd hc_122 dX8_number_55 rfl
theorem x_122_56 {ls st : List Value} {h : Hp}  : ex 122 56 ls (st) h = ex 122 58 ls (.int (48) :: st) h := x_bipush hc_122 dX8_number_56 rfl (by decide)
theorem x_122_58 {ls st : List Value} {h : Hp} {a b : Int32} : ex 122 58 ls (.int b :: .int a :: st) h = ex 122 59 ls (.int (a - b) :: st) h := x_isub hc_122 dX8_number_58 rfl
theorem x_122_59 {ls st : List Value} {h : Hp} {x : Int32} : ex 122 59 ls (.int x :: st) h = ex 122 60 (ls.set 1 (.int x)) st h := x_istore_n hc_122 dX8_number_59 rfl rfl (by decide)
theorem x_122_60 {ls st : List Value} {h : Hp}  : ex 122 60 ls (st) h = gA (ldA ls 0) 122 61 ls st h := x_aload_n hc_122 dX8_number_60 rfl rfl
theorem x_122_61i {ls st : List Value} {h : Hp} {u : Int32} : ex 122 61 ls (.int u :: st) h = ex 122 62 ls (.int u :: .int u :: st) h := x_dup_i hc_122 dX8_number_61 rfl
theorem x_122_61a {ls st : List Value} {h : Hp} {u : Nat} : ex 122 61 ls (.ref u :: st) h = ex 122 62 ls (.ref u :: .ref u :: st) h := x_dup_a hc_122 dX8_number_61 rfl
theorem x_122_62 {ls st : List Value} {h : Hp} {k : Nat} : ex 122 62 ls (.ref k :: st) h = if kd k = 8 then ex 122 65 ls (vl h k 52 :: st) h else none := x_getf hc_122 dX8_number_62 rfl fr_8_197
theorem x_122_65 {ls st : List Value} {h : Hp}  : ex 122 65 ls (st) h = ex 122 66 ls (.int (1) :: st) h := x_iconst hc_122 dX8_number_65 rfl (by decide)
theorem x_122_66 {ls st : List Value} {h : Hp} {a b : Int32} : ex 122 66 ls (.int b :: .int a :: st) h = ex 122 67 ls (.int (a + b) :: st) h := x_iadd hc_122 dX8_number_66 rfl
theorem x_122_67 {ls st : List Value} {h : Hp} {k : Nat} {x : Int32} : ex 122 67 ls (.int x :: .ref k :: st) h = if kd k = 8 then ex 122 70 ls st (hu h k 52 x) else none := x_putf hc_122 dX8_number_67 rfl fr_8_197 (by decide)
theorem x_122_70 {ls st : List Value} {h : Hp}  : ex 122 70 ls (st) h = gN (ldI ls 2) 122 73 ls 2 (1) st h := x_iinc hc_122 dX8_number_70 rfl (by decide) (by decide)
theorem x_122_73 {ls st : List Value} {h : Hp}  : ex 122 73 ls (st) h = ex 122 4 ls st h := x_goto hc_122 dX8_number_73 (by decide)
theorem x_122_76 {ls st : List Value} {h : Hp}  : ex 122 76 ls (st) h = gI (ldI ls 2) 122 77 ls st h := x_iload_n hc_122 dX8_number_76 rfl rfl
theorem x_122_77 {ls st : List Value} {h : Hp} {x : Int32} : ex 122 77 ls (.int x :: st) h = if x = 0 then ex 122 80 ls st h else ex 122 96 ls st h := x_if_ne hc_122 dX8_number_77 rfl (by decide)
theorem x_122_80 {ls st : List Value} {h : Hp}  : ex 122 80 ls (st) h = gA (ldA ls 0) 122 81 ls st h := x_aload_n hc_122 dX8_number_80 rfl rfl
theorem x_122_81 {ls st : List Value} {h : Hp} {k : Nat} : ex 122 81 ls (.ref k :: st) h = if kd k = 8 then ex 122 84 ls (vl h k 53 :: st) h else none := x_getf hc_122 dX8_number_81 rfl fr_8_194
theorem x_122_84 {ls st : List Value} {h : Hp}  : ex 122 84 ls (st) h = ex 122 85 ls (.int (-1) :: st) h := x_iconst hc_122 dX8_number_84 rfl (by decide)
theorem x_122_85 {ls st : List Value} {h : Hp} {x z : Int32} : ex 122 85 ls (.int z :: .int x :: st) h = if x = z then ex 122 88 ls st h else ex 122 96 ls st h := x_icmp_ne hc_122 dX8_number_85 rfl (by decide)
theorem x_122_88 {ls st : List Value} {h : Hp}  : ex 122 88 ls (st) h = gA (ldA ls 0) 122 89 ls st h := x_aload_n hc_122 dX8_number_88 rfl rfl
theorem x_122_89 {ls st : List Value} {h : Hp}  : ex 122 89 ls (st) h = gA (ldA ls 0) 122 90 ls st h := x_aload_n hc_122 dX8_number_89 rfl rfl
theorem x_122_90 {ls st : List Value} {h : Hp} {k : Nat} : ex 122 90 ls (.ref k :: st) h = if kd k = 8 then ex 122 93 ls (vl h k 52 :: st) h else none := x_getf hc_122 dX8_number_90 rfl fr_8_197
theorem x_122_93 {ls st : List Value} {h : Hp} {k : Nat} {x : Int32} : ex 122 93 ls (.int x :: .ref k :: st) h = if kd k = 8 then ex 122 96 ls st (hu h k 53 x) else none := x_putf hc_122 dX8_number_93 rfl fr_8_194 (by decide)
theorem x_122_96 {ls st : List Value} {h : Hp}  : ex 122 96 ls (st) h = gI (ldI ls 1) 122 97 ls st h := x_iload_n hc_122 dX8_number_96 rfl rfl
theorem x_122_97 {ls : List Value} {h : Hp} {v : Int32} : ex 122 97 ls [.int v] h = some (some (.int v), h) := x_iret hc_122 dX8_number_97 rfl
theorem x_123_0 {ls st : List Value} {h : Hp}  : ex 123 0 ls (st) h = gA (ldA ls 0) 123 1 ls st h := x_aload_n hc_123 dX8_fieldNow_0 rfl rfl
theorem x_123_1 {ls st : List Value} {h : Hp}  : ex 123 1 ls (st) h = gA (ldA ls 0) 123 2 ls st h := x_aload_n hc_123 dX8_fieldNow_1 rfl rfl
theorem x_123_2 {ls st : List Value} {h : Hp} {k : Nat} : ex 123 2 ls (.ref k :: st) h = if kd k = 8 then ex 123 5 ls (vl h k 52 :: st) h else none := x_getf hc_123 dX8_fieldNow_2 rfl fr_8_197
theorem x_123_5 {ls st : List Value} {h : Hp} {k : Nat} {a0 : Int32} : ex 123 5 ls (.int a0 :: .ref k :: st) h = if kd k = 8 ∧ st.length ≤ 4 then gC (ex 120 0 [.ref k, .int a0] [] h) 123 8 ls st else none := x_callV (as := [.int a0]) hc_123 dX8_fieldNow_5 rfl mr_8_200 rfl rfl rfl (by decide) (by decide)
theorem x_123_8 {ls st : List Value} {h : Hp} {x : Int32} : ex 123 8 ls (.int x :: st) h = ex 123 9 (ls.set 1 (.int x)) st h := x_istore_n hc_123 dX8_fieldNow_8 rfl rfl (by decide)
theorem x_123_9 {ls st : List Value} {h : Hp}  : ex 123 9 ls (st) h = gI (ldI ls 1) 123 10 ls st h := x_iload_n hc_123 dX8_fieldNow_9 rfl rfl
theorem x_123_10 {ls st : List Value} {h : Hp}  : ex 123 10 ls (st) h = ex 123 12 ls (.int (105) :: st) h := x_bipush hc_123 dX8_fieldNow_10 rfl (by decide)
theorem x_123_12 {ls st : List Value} {h : Hp} {x z : Int32} : ex 123 12 ls (.int z :: .int x :: st) h = if x = z then ex 123 15 ls st h else ex 123 19 ls st h := x_icmp_ne hc_123 dX8_fieldNow_12 rfl (by decide)
theorem x_123_15 {ls st : List Value} {h : Hp}  : ex 123 15 ls (st) h = ex 123 16 ls (.int (0) :: st) h := x_iconst hc_123 dX8_fieldNow_15 rfl (by decide)
theorem x_123_16 {ls st : List Value} {h : Hp}  : ex 123 16 ls (st) h = ex 123 60 ls st h := x_goto hc_123 dX8_fieldNow_16 (by decide)
theorem x_123_19 {ls st : List Value} {h : Hp}  : ex 123 19 ls (st) h = gI (ldI ls 1) 123 20 ls st h := x_iload_n hc_123 dX8_fieldNow_19 rfl rfl
theorem x_123_20 {ls st : List Value} {h : Hp}  : ex 123 20 ls (st) h = ex 123 22 ls (.int (104) :: st) h := x_bipush hc_123 dX8_fieldNow_20 rfl (by decide)
theorem x_123_22 {ls st : List Value} {h : Hp} {x z : Int32} : ex 123 22 ls (.int z :: .int x :: st) h = if x = z then ex 123 25 ls st h else ex 123 29 ls st h := x_icmp_ne hc_123 dX8_fieldNow_22 rfl (by decide)
theorem x_123_25 {ls st : List Value} {h : Hp}  : ex 123 25 ls (st) h = ex 123 26 ls (.int (1) :: st) h := x_iconst hc_123 dX8_fieldNow_25 rfl (by decide)
theorem x_123_26 {ls st : List Value} {h : Hp}  : ex 123 26 ls (st) h = ex 123 60 ls st h := x_goto hc_123 dX8_fieldNow_26 (by decide)
theorem x_123_29 {ls st : List Value} {h : Hp}  : ex 123 29 ls (st) h = gI (ldI ls 1) 123 30 ls st h := x_iload_n hc_123 dX8_fieldNow_29 rfl rfl
theorem x_123_30 {ls st : List Value} {h : Hp}  : ex 123 30 ls (st) h = ex 123 32 ls (.int (111) :: st) h := x_bipush hc_123 dX8_fieldNow_30 rfl (by decide)
theorem x_123_32 {ls st : List Value} {h : Hp} {x z : Int32} : ex 123 32 ls (.int z :: .int x :: st) h = if x = z then ex 123 35 ls st h else ex 123 39 ls st h := x_icmp_ne hc_123 dX8_fieldNow_32 rfl (by decide)
theorem x_123_35 {ls st : List Value} {h : Hp}  : ex 123 35 ls (st) h = ex 123 36 ls (.int (2) :: st) h := x_iconst hc_123 dX8_fieldNow_35 rfl (by decide)
theorem x_123_36 {ls st : List Value} {h : Hp}  : ex 123 36 ls (st) h = ex 123 60 ls st h := x_goto hc_123 dX8_fieldNow_36 (by decide)
theorem x_123_39 {ls st : List Value} {h : Hp}  : ex 123 39 ls (st) h = gI (ldI ls 1) 123 40 ls st h := x_iload_n hc_123 dX8_fieldNow_39 rfl rfl
theorem x_123_40 {ls st : List Value} {h : Hp}  : ex 123 40 ls (st) h = ex 123 42 ls (.int (115) :: st) h := x_bipush hc_123 dX8_fieldNow_40 rfl (by decide)
theorem x_123_42 {ls st : List Value} {h : Hp} {x z : Int32} : ex 123 42 ls (.int z :: .int x :: st) h = if x = z then ex 123 45 ls st h else ex 123 49 ls st h := x_icmp_ne hc_123 dX8_fieldNow_42 rfl (by decide)
theorem x_123_45 {ls st : List Value} {h : Hp}  : ex 123 45 ls (st) h = ex 123 46 ls (.int (3) :: st) h := x_iconst hc_123 dX8_fieldNow_45 rfl (by decide)
theorem x_123_46 {ls st : List Value} {h : Hp}  : ex 123 46 ls (st) h = ex 123 60 ls st h := x_goto hc_123 dX8_fieldNow_46 (by decide)
theorem x_123_49 {ls st : List Value} {h : Hp}  : ex 123 49 ls (st) h = gI (ldI ls 1) 123 50 ls st h := x_iload_n hc_123 dX8_fieldNow_49 rfl rfl
theorem x_123_50 {ls st : List Value} {h : Hp}  : ex 123 50 ls (st) h = ex 123 52 ls (.int (99) :: st) h := x_bipush hc_123 dX8_fieldNow_50 rfl (by decide)
theorem x_123_52 {ls st : List Value} {h : Hp} {x z : Int32} : ex 123 52 ls (.int z :: .int x :: st) h = if x = z then ex 123 55 ls st h else ex 123 59 ls st h := x_icmp_ne hc_123 dX8_fieldNow_52 rfl (by decide)
theorem x_123_55 {ls st : List Value} {h : Hp}  : ex 123 55 ls (st) h = ex 123 56 ls (.int (4) :: st) h := x_iconst hc_123 dX8_fieldNow_55 rfl (by decide)
theorem x_123_56 {ls st : List Value} {h : Hp}  : ex 123 56 ls (st) h = ex 123 60 ls st h := x_goto hc_123 dX8_fieldNow_56 (by decide)
theorem x_123_59 {ls st : List Value} {h : Hp}  : ex 123 59 ls (st) h = ex 123 60 ls (.int (-1) :: st) h := x_iconst hc_123 dX8_fieldNow_59 rfl (by decide)
theorem x_123_60 {ls st : List Value} {h : Hp} {x : Int32} : ex 123 60 ls (.int x :: st) h = ex 123 61 (ls.set 2 (.int x)) st h := x_istore_n hc_123 dX8_fieldNow_60 rfl rfl (by decide)
theorem x_123_61 {ls st : List Value} {h : Hp}  : ex 123 61 ls (st) h = gA (ldA ls 0) 123 62 ls st h := x_aload_n hc_123 dX8_fieldNow_61 rfl rfl
theorem x_123_62 {ls st : List Value} {h : Hp}  : ex 123 62 ls (st) h = gI (ldI ls 2) 123 63 ls st h := x_iload_n hc_123 dX8_fieldNow_62 rfl rfl
theorem x_123_63 {ls st : List Value} {h : Hp}  : ex 123 63 ls (st) h = ex 123 64 ls (.int (1) :: st) h := x_iconst hc_123 dX8_fieldNow_63 rfl (by decide)
theorem x_123_64 {ls st : List Value} {h : Hp} {x z : Int32} : ex 123 64 ls (.int z :: .int x :: st) h = if x = z then ex 123 67 ls st h else ex 123 72 ls st h := x_icmp_ne hc_123 dX8_fieldNow_64 rfl (by decide)
theorem x_123_67 {ls st : List Value} {h : Hp}  : ex 123 67 ls (st) h = ex 123 69 ls (.ref 705 :: st) h := x_ldcS (q := 5) hc_123 dX8_fieldNow_67 rfl (by decide +kernel) (by decide +kernel)
theorem x_123_69 {ls st : List Value} {h : Hp}  : ex 123 69 ls (st) h = ex 123 104 ls st h := x_goto hc_123 dX8_fieldNow_69 (by decide)
theorem x_123_72 {ls st : List Value} {h : Hp}  : ex 123 72 ls (st) h = gI (ldI ls 2) 123 73 ls st h := x_iload_n hc_123 dX8_fieldNow_72 rfl rfl
theorem x_123_73 {ls st : List Value} {h : Hp}  : ex 123 73 ls (st) h = ex 123 74 ls (.int (2) :: st) h := x_iconst hc_123 dX8_fieldNow_73 rfl (by decide)
theorem x_123_74 {ls st : List Value} {h : Hp} {x z : Int32} : ex 123 74 ls (.int z :: .int x :: st) h = if x = z then ex 123 77 ls st h else ex 123 82 ls st h := x_icmp_ne hc_123 dX8_fieldNow_74 rfl (by decide)
theorem x_123_77 {ls st : List Value} {h : Hp}  : ex 123 77 ls (st) h = ex 123 79 ls (.ref 706 :: st) h := x_ldcS (q := 6) hc_123 dX8_fieldNow_77 rfl (by decide +kernel) (by decide +kernel)
theorem x_123_79 {ls st : List Value} {h : Hp}  : ex 123 79 ls (st) h = ex 123 104 ls st h := x_goto hc_123 dX8_fieldNow_79 (by decide)
theorem x_123_82 {ls st : List Value} {h : Hp}  : ex 123 82 ls (st) h = gI (ldI ls 2) 123 83 ls st h := x_iload_n hc_123 dX8_fieldNow_82 rfl rfl
theorem x_123_83 {ls st : List Value} {h : Hp}  : ex 123 83 ls (st) h = ex 123 84 ls (.int (3) :: st) h := x_iconst hc_123 dX8_fieldNow_83 rfl (by decide)
theorem x_123_84 {ls st : List Value} {h : Hp} {x z : Int32} : ex 123 84 ls (.int z :: .int x :: st) h = if x = z then ex 123 87 ls st h else ex 123 92 ls st h := x_icmp_ne hc_123 dX8_fieldNow_84 rfl (by decide)
theorem x_123_87 {ls st : List Value} {h : Hp}  : ex 123 87 ls (st) h = ex 123 89 ls (.ref 707 :: st) h := x_ldcS (q := 7) hc_123 dX8_fieldNow_87 rfl (by decide +kernel) (by decide +kernel)
theorem x_123_89 {ls st : List Value} {h : Hp}  : ex 123 89 ls (st) h = ex 123 104 ls st h := x_goto hc_123 dX8_fieldNow_89 (by decide)
theorem x_123_92 {ls st : List Value} {h : Hp}  : ex 123 92 ls (st) h = gI (ldI ls 2) 123 93 ls st h := x_iload_n hc_123 dX8_fieldNow_92 rfl rfl
theorem x_123_93 {ls st : List Value} {h : Hp}  : ex 123 93 ls (st) h = ex 123 94 ls (.int (4) :: st) h := x_iconst hc_123 dX8_fieldNow_93 rfl (by decide)
theorem x_123_94 {ls st : List Value} {h : Hp} {x z : Int32} : ex 123 94 ls (.int z :: .int x :: st) h = if x = z then ex 123 97 ls st h else ex 123 102 ls st h := x_icmp_ne hc_123 dX8_fieldNow_94 rfl (by decide)
theorem x_123_97 {ls st : List Value} {h : Hp}  : ex 123 97 ls (st) h = ex 123 99 ls (.ref 708 :: st) h := x_ldcS (q := 8) hc_123 dX8_fieldNow_97 rfl (by decide +kernel) (by decide +kernel)
theorem x_123_99 {ls st : List Value} {h : Hp}  : ex 123 99 ls (st) h = ex 123 104 ls st h := x_goto hc_123 dX8_fieldNow_99 (by decide)
theorem x_123_102 {ls st : List Value} {h : Hp}  : ex 123 102 ls (st) h = ex 123 104 ls (.ref 704 :: st) h := x_ldcS (q := 4) hc_123 dX8_fieldNow_102 rfl (by decide +kernel) (by decide +kernel)
theorem x_123_104 {ls st : List Value} {h : Hp} {k : Nat} {a0 : Nat} : ex 123 104 ls (.ref a0 :: .ref k :: st) h = if kd k = 8 ∧ st.length ≤ 4 then gC (ex 121 0 [.ref k, .ref a0, .null] [] h) 123 107 ls st else none := x_callV (as := [.ref a0]) hc_123 dX8_fieldNow_104 rfl mr_8_215 rfl rfl rfl (by decide) (by decide)
theorem x_123_107 {ls st : List Value} {h : Hp}  : ex 123 107 ls (st) h = gI (ldI ls 2) 123 108 ls st h := x_iload_n hc_123 dX8_fieldNow_107 rfl rfl
theorem x_123_108 {ls : List Value} {h : Hp} {v : Int32} : ex 123 108 ls [.int v] h = some (some (.int v), h) := x_iret hc_123 dX8_fieldNow_108 rfl
theorem x_124_0 {ls st : List Value} {h : Hp}  : ex 124 0 ls (st) h = gI (ldI ls 1) 124 1 ls st h := x_iload_n hc_124 dX8_run_0 rfl rfl
theorem x_124_1 {ls st : List Value} {h : Hp} {x : Int32} : ex 124 1 ls (.int x :: st) h = if x < 0 then ex 124 4 ls st h else ex 124 11 ls st h := x_if_ge hc_124 dX8_run_1 rfl (by decide)
theorem x_124_4 {ls st : List Value} {h : Hp}  : ex 124 4 ls (st) h = gA (ldA ls 0) 124 5 ls st h := x_aload_n hc_124 dX8_run_4 rfl rfl
theorem x_124_5 {ls st : List Value} {h : Hp}  : ex 124 5 ls (st) h = ex 124 7 ls (.int (-4) :: st) h := x_bipush hc_124 dX8_run_5 rfl (by decide)
theorem x_124_7 {ls st : List Value} {h : Hp} {k : Nat} {a0 : Int32} : ex 124 7 ls (.int a0 :: .ref k :: st) h = if kd k = 8 ∧ st.length ≤ 4 then gC (ex 92 0 [.ref k, .int a0] [] h) 124 10 ls st else none := x_callV (as := [.int a0]) hc_124 dX8_run_7 rfl mr_8_148 rfl rfl rfl (by decide) (by decide)
theorem x_124_10 {ls : List Value} {h : Hp} {v : Int32} : ex 124 10 ls [.int v] h = some (some (.int v), h) := x_iret hc_124 dX8_run_10 rfl
theorem x_124_11 {ls st : List Value} {h : Hp}  : ex 124 11 ls (st) h = gI (ldI ls 1) 124 12 ls st h := x_iload_n hc_124 dX8_run_11 rfl rfl
theorem x_124_12 {ls st : List Value} {h : Hp}  : ex 124 12 ls (st) h = ex 124 13 ls (.int (1) :: st) h := x_iconst hc_124 dX8_run_12 rfl (by decide)
theorem x_124_13 {ls st : List Value} {h : Hp} {x z : Int32} : ex 124 13 ls (.int z :: .int x :: st) h = if x < z then ex 124 23 ls st h else ex 124 16 ls st h := x_icmp_lt hc_124 dX8_run_13 rfl (by decide)
theorem x_124_16 {ls st : List Value} {h : Hp}  : ex 124 16 ls (st) h = gI (ldI ls 1) 124 17 ls st h := x_iload_n hc_124 dX8_run_16 rfl rfl
theorem x_124_17 {ls st : List Value} {h : Hp}  : ex 124 17 ls (st) h = ex 124 20 ls (.int (200) :: st) h := x_sipush hc_124 dX8_run_17 rfl (by decide)
theorem x_124_20 {ls st : List Value} {h : Hp} {x z : Int32} : ex 124 20 ls (.int z :: .int x :: st) h = if z < x then ex 124 23 ls st h else ex 124 30 ls st h := x_icmp_le hc_124 dX8_run_20 rfl (by decide)
theorem x_124_23 {ls st : List Value} {h : Hp}  : ex 124 23 ls (st) h = gA (ldA ls 0) 124 24 ls st h := x_aload_n hc_124 dX8_run_23 rfl rfl
theorem x_124_24 {ls st : List Value} {h : Hp}  : ex 124 24 ls (st) h = ex 124 26 ls (.int (-7) :: st) h := x_bipush hc_124 dX8_run_24 rfl (by decide)
theorem x_124_26 {ls st : List Value} {h : Hp} {k : Nat} {a0 : Int32} : ex 124 26 ls (.int a0 :: .ref k :: st) h = if kd k = 8 ∧ st.length ≤ 4 then gC (ex 92 0 [.ref k, .int a0] [] h) 124 29 ls st else none := x_callV (as := [.int a0]) hc_124 dX8_run_26 rfl mr_8_148 rfl rfl rfl (by decide) (by decide)
theorem x_124_29 {ls : List Value} {h : Hp} {v : Int32} : ex 124 29 ls [.int v] h = some (some (.int v), h) := x_iret hc_124 dX8_run_29 rfl
theorem x_124_30 {ls st : List Value} {h : Hp}  : ex 124 30 ls (st) h = ex 124 31 ls (.int (0) :: st) h := x_iconst hc_124 dX8_run_30 rfl (by decide)
theorem x_124_31 {ls st : List Value} {h : Hp} {x : Int32} : ex 124 31 ls (.int x :: st) h = ex 124 32 (ls.set 2 (.int x)) st h := x_istore_n hc_124 dX8_run_31 rfl rfl (by decide)
theorem x_124_32 {ls st : List Value} {h : Hp}  : ex 124 32 ls (st) h = ex 124 33 ls (.int (0) :: st) h := x_iconst hc_124 dX8_run_32 rfl (by decide)
theorem x_124_33 {ls st : List Value} {h : Hp} {x : Int32} : ex 124 33 ls (.int x :: st) h = ex 124 34 (ls.set 3 (.int x)) st h := x_istore_n hc_124 dX8_run_33 rfl rfl (by decide)
theorem x_124_34 {ls st : List Value} {h : Hp}  : ex 124 34 ls (st) h = gI (ldI ls 3) 124 35 ls st h := x_iload_n hc_124 dX8_run_34 rfl rfl
theorem x_124_35 {ls st : List Value} {h : Hp}  : ex 124 35 ls (st) h = gI (ldI ls 1) 124 36 ls st h := x_iload_n hc_124 dX8_run_35 rfl rfl
theorem x_124_36 {ls st : List Value} {h : Hp} {x z : Int32} : ex 124 36 ls (.int z :: .int x :: st) h = if x < z then ex 124 39 ls st h else ex 124 95 ls st h := x_icmp_ge hc_124 dX8_run_36 rfl (by decide)
theorem x_124_39 {ls st : List Value} {h : Hp}  : ex 124 39 ls (st) h = gA (ldA ls 0) 124 40 ls st h := x_aload_n hc_124 dX8_run_39 rfl rfl
theorem x_124_40 {ls st : List Value} {h : Hp} {k : Nat}  : ex 124 40 ls (.ref k :: st) h = if kd k = 8 ∧ st.length ≤ 4 then gC (ex 125 0 [.ref k, .null] [] h) 124 43 ls st else none := x_callV (as := []) hc_124 dX8_run_40 rfl mr_8_259 rfl rfl rfl (by decide) (by decide)
theorem x_124_43 {ls st : List Value} {h : Hp}  : ex 124 43 ls (st) h = ex 124 44 ls (.int (0) :: st) h := x_iconst hc_124 dX8_run_43 rfl (by decide)
theorem x_124_44 {ls st : List Value} {h : Hp} {x : Int32} : ex 124 44 ls (.int x :: st) h = ex 124 46 (ls.set 4 (.int x)) st h := x_istore hc_124 dX8_run_44 rfl (by decide)
theorem x_124_46 {ls st : List Value} {h : Hp}  : ex 124 46 ls (st) h = gI (ldI ls 4) 124 48 ls st h := x_iload hc_124 dX8_run_46 rfl
theorem x_124_48 {ls st : List Value} {h : Hp}  : ex 124 48 ls (st) h = gA (ldA ls 0) 124 49 ls st h := x_aload_n hc_124 dX8_run_48 rfl rfl
theorem x_124_49 {ls st : List Value} {h : Hp} {k : Nat} : ex 124 49 ls (.ref k :: st) h = if kd k = 8 then ex 124 52 ls (vl h k 2 :: st) h else none := x_getf hc_124 dX8_run_49 rfl fr_8_145
theorem x_124_52 {ls st : List Value} {h : Hp} {x z : Int32} : ex 124 52 ls (.int z :: .int x :: st) h = if x < z then ex 124 55 ls st h else ex 124 79 ls st h := x_icmp_ge hc_124 dX8_run_52 rfl (by decide)
theorem x_124_55 {ls st : List Value} {h : Hp}  : ex 124 55 ls (st) h = gA (ldA ls 0) 124 56 ls st h := x_aload_n hc_124 dX8_run_55 rfl rfl
theorem x_124_56 {ls st : List Value} {h : Hp}  : ex 124 56 ls (st) h = gI (ldI ls 4) 124 58 ls st h := x_iload hc_124 dX8_run_56 rfl
theorem x_124_58 {ls st : List Value} {h : Hp}  : ex 124 58 ls (st) h = gA (ldA ls 0) 124 59 ls st h := x_aload_n hc_124 dX8_run_58 rfl rfl
theorem x_124_59 {ls st : List Value} {h : Hp} {k : Nat} : ex 124 59 ls (.ref k :: st) h = if kd k = 8 then ex 124 62 ls (vl h k 0 :: st) h else none := x_getf hc_124 dX8_run_59 rfl fr_8_262
theorem x_124_62 {ls st : List Value} {h : Hp}  : ex 124 62 ls (st) h = gI (ldI ls 4) 124 64 ls st h := x_iload hc_124 dX8_run_62 rfl
theorem x_124_64 {ls st : List Value} {h : Hp} {k : Nat} {a0 : Int32} {a1 : Int32} {a2 : Int32} : ex 124 64 ls (.int a2 :: .int a1 :: .int a0 :: .ref k :: st) h = if kd k = 8 ∧ st.length ≤ 4 then gC (ex 126 0 [.ref k, .int a0, .int a1, .int a2, .null, .null, .null, .null, .null] [] h) 124 67 ls st else none := x_callV (as := [.int a0, .int a1, .int a2]) hc_124 dX8_run_64 rfl mr_8_265 rfl rfl rfl (by decide) (by decide)
theorem x_124_67 {ls st : List Value} {h : Hp} {x : Int32} : ex 124 67 ls (.int x :: st) h = if x = 0 then ex 124 73 ls st h else ex 124 70 ls st h := x_if_eq hc_124 dX8_run_67 rfl (by decide)
theorem x_124_70 {ls st : List Value} {h : Hp}  : ex 124 70 ls (st) h = gN (ldI ls 2) 124 73 ls 2 (1) st h := x_iinc hc_124 dX8_run_70 rfl (by decide) (by decide)
theorem x_124_73 {ls st : List Value} {h : Hp}  : ex 124 73 ls (st) h = gN (ldI ls 4) 124 76 ls 4 (1) st h := x_iinc hc_124 dX8_run_73 rfl (by decide) (by decide)
theorem x_124_76 {ls st : List Value} {h : Hp}  : ex 124 76 ls (st) h = ex 124 46 ls st h := x_goto hc_124 dX8_run_76 (by decide)
theorem x_124_79 {ls st : List Value} {h : Hp}  : ex 124 79 ls (st) h = gA (ldA ls 0) 124 80 ls st h := x_aload_n hc_124 dX8_run_79 rfl rfl
theorem x_124_80i {ls st : List Value} {h : Hp} {u : Int32} : ex 124 80 ls (.int u :: st) h = ex 124 81 ls (.int u :: .int u :: st) h := x_dup_i hc_124 dX8_run_80 rfl
theorem x_124_80a {ls st : List Value} {h : Hp} {u : Nat} : ex 124 80 ls (.ref u :: st) h = ex 124 81 ls (.ref u :: .ref u :: st) h := x_dup_a hc_124 dX8_run_80 rfl
theorem x_124_81 {ls st : List Value} {h : Hp} {k : Nat} : ex 124 81 ls (.ref k :: st) h = if kd k = 8 then ex 124 84 ls (vl h k 0 :: st) h else none := x_getf hc_124 dX8_run_81 rfl fr_8_262
theorem x_124_84 {ls st : List Value} {h : Hp}  : ex 124 84 ls (st) h = ex 124 85 ls (.int (1) :: st) h := x_iconst hc_124 dX8_run_84 rfl (by decide)
theorem x_124_85 {ls st : List Value} {h : Hp} {a b : Int32} : ex 124 85 ls (.int b :: .int a :: st) h = ex 124 86 ls (.int (a + b) :: st) h := x_iadd hc_124 dX8_run_85 rfl
theorem x_124_86 {ls st : List Value} {h : Hp} {k : Nat} {x : Int32} : ex 124 86 ls (.int x :: .ref k :: st) h = if kd k = 8 then ex 124 89 ls st (hu h k 0 x) else none := x_putf hc_124 dX8_run_86 rfl fr_8_262 (by decide)
theorem x_124_89 {ls st : List Value} {h : Hp}  : ex 124 89 ls (st) h = gN (ldI ls 3) 124 92 ls 3 (1) st h := x_iinc hc_124 dX8_run_89 rfl (by decide) (by decide)
theorem x_124_92 {ls st : List Value} {h : Hp}  : ex 124 92 ls (st) h = ex 124 34 ls st h := x_goto hc_124 dX8_run_92 (by decide)
theorem x_124_95 {ls st : List Value} {h : Hp}  : ex 124 95 ls (st) h = gA (ldA ls 0) 124 96 ls st h := x_aload_n hc_124 dX8_run_95 rfl rfl
theorem x_124_96 {ls st : List Value} {h : Hp} {k : Nat}  : ex 124 96 ls (.ref k :: st) h = if kd k = 8 ∧ st.length ≤ 4 then gC (ex 125 0 [.ref k, .null] [] h) 124 99 ls st else none := x_callV (as := []) hc_124 dX8_run_96 rfl mr_8_259 rfl rfl rfl (by decide) (by decide)
theorem x_124_99 {ls st : List Value} {h : Hp}  : ex 124 99 ls (st) h = gI (ldI ls 2) 124 100 ls st h := x_iload_n hc_124 dX8_run_99 rfl rfl
theorem x_124_100 {ls : List Value} {h : Hp} {v : Int32} : ex 124 100 ls [.int v] h = some (some (.int v), h) := x_iret hc_124 dX8_run_100 rfl
theorem x_125_0 {ls st : List Value} {h : Hp}  : ex 125 0 ls (st) h = ex 125 1 ls (.int (0) :: st) h := x_iconst hc_125 dX8_gangsRest_0 rfl (by decide)
theorem x_125_1 {ls st : List Value} {h : Hp} {x : Int32} : ex 125 1 ls (.int x :: st) h = ex 125 2 (ls.set 1 (.int x)) st h := x_istore_n hc_125 dX8_gangsRest_1 rfl rfl (by decide)
theorem x_125_2 {ls st : List Value} {h : Hp}  : ex 125 2 ls (st) h = gI (ldI ls 1) 125 3 ls st h := x_iload_n hc_125 dX8_gangsRest_2 rfl rfl
theorem x_125_3 {ls st : List Value} {h : Hp}  : ex 125 3 ls (st) h = ex 125 5 ls (.int (8) :: st) h := x_bipush hc_125 dX8_gangsRest_3 rfl (by decide)
theorem x_125_5 {ls st : List Value} {h : Hp} {x z : Int32} : ex 125 5 ls (.int z :: .int x :: st) h = if x < z then ex 125 8 ls st h else ex 125 21 ls st h := x_icmp_ge hc_125 dX8_gangsRest_5 rfl (by decide)
theorem x_125_8 {ls st : List Value} {h : Hp}  : ex 125 8 ls (st) h = gA (ldA ls 0) 125 9 ls st h := x_aload_n hc_125 dX8_gangsRest_8 rfl rfl
theorem x_125_9 {ls st : List Value} {h : Hp} {k : Nat} : ex 125 9 ls (.ref k :: st) h = if kd k = 8 then ex 125 12 ls (vl h k 14 :: st) h else none := x_getf hc_125 dX8_gangsRest_9 rfl fr_8_29
theorem x_125_12 {ls st : List Value} {h : Hp}  : ex 125 12 ls (st) h = gI (ldI ls 1) 125 13 ls st h := x_iload_n hc_125 dX8_gangsRest_12 rfl rfl
theorem x_125_13 {ls st : List Value} {h : Hp}  : ex 125 13 ls (st) h = ex 125 14 ls (.int (0) :: st) h := x_iconst hc_125 dX8_gangsRest_13 rfl (by decide)
theorem x_125_14 {ls st : List Value} {h : Hp} {k : Nat} {x u : Int32} : ex 125 14 ls (.int u :: .int x :: .ref k :: st) h = if kd k = 9 ∧ x.toNatClampNeg < ln k ∧ 0 ≤ x then ex 125 15 ls st (hu h k x.toNatClampNeg u) else none := x_iast hc_125 dX8_gangsRest_14 rfl
theorem x_125_15 {ls st : List Value} {h : Hp}  : ex 125 15 ls (st) h = gN (ldI ls 1) 125 18 ls 1 (1) st h := x_iinc hc_125 dX8_gangsRest_15 rfl (by decide) (by decide)
theorem x_125_18 {ls st : List Value} {h : Hp}  : ex 125 18 ls (st) h = ex 125 2 ls st h := x_goto hc_125 dX8_gangsRest_18 (by decide)
theorem x_125_21 {ls : List Value} {h : Hp} : ex 125 21 ls [] h = some (none, h) := x_vret hc_125 dX8_gangsRest_21 rfl
theorem x_126_0 {ls st : List Value} {h : Hp}  : ex 126 0 ls (st) h = gA (ldA ls 0) 126 1 ls st h := x_aload_n hc_126 dX8_lives_0 rfl rfl
theorem x_126_1 {ls st : List Value} {h : Hp} {k : Nat} : ex 126 1 ls (.ref k :: st) h = if kd k = 8 then ex 126 4 ls (vl h k 22 :: st) h else none := x_getf hc_126 dX8_lives_1 rfl fr_8_53
theorem x_126_4 {ls st : List Value} {h : Hp}  : ex 126 4 ls (st) h = gI (ldI ls 1) 126 5 ls st h := x_iload_n hc_126 dX8_lives_4 rfl rfl
theorem x_126_5 {ls st : List Value} {h : Hp} {k : Nat} {x : Int32} : ex 126 5 ls (.int x :: .ref k :: st) h = if kd k = 9 ∧ x.toNatClampNeg < ln k ∧ 0 ≤ x then ex 126 6 ls (.int (h k x.toNatClampNeg) :: st) h else none := x_iald hc_126 dX8_lives_5 rfl
theorem x_126_6 {ls st : List Value} {h : Hp} {x : Int32} : ex 126 6 ls (.int x :: st) h = if x = 0 then ex 126 9 ls st h else ex 126 16 ls st h := x_if_ne hc_126 dX8_lives_6 rfl (by decide)
theorem x_126_9 {ls st : List Value} {h : Hp}  : ex 126 9 ls (st) h = gA (ldA ls 0) 126 10 ls st h := x_aload_n hc_126 dX8_lives_9 rfl rfl
theorem x_126_10 {ls st : List Value} {h : Hp}  : ex 126 10 ls (st) h = gI (ldI ls 1) 126 11 ls st h := x_iload_n hc_126 dX8_lives_10 rfl rfl
theorem x_126_11 {ls st : List Value} {h : Hp}  : ex 126 11 ls (st) h = gI (ldI ls 2) 126 12 ls st h := x_iload_n hc_126 dX8_lives_11 rfl rfl
theorem x_126_12 {ls st : List Value} {h : Hp}  : ex 126 12 ls (st) h = gI (ldI ls 3) 126 13 ls st h := x_iload_n hc_126 dX8_lives_12 rfl rfl
theorem x_126_13 {ls st : List Value} {h : Hp} {k : Nat} {a0 : Int32} {a1 : Int32} {a2 : Int32} : ex 126 13 ls (.int a2 :: .int a1 :: .int a0 :: .ref k :: st) h = if kd k = 8 ∧ st.length ≤ 4 then gC (ex 127 0 [.ref k, .int a0, .int a1, .int a2, .null, .null, .null, .null] [] h) 126 16 ls st else none := x_callV (as := [.int a0, .int a1, .int a2]) hc_126 dX8_lives_13 rfl mr_8_249 rfl rfl rfl (by decide) (by decide)
theorem x_126_16 {ls st : List Value} {h : Hp}  : ex 126 16 ls (st) h = ex 126 17 ls (.int (0) :: st) h := x_iconst hc_126 dX8_lives_16 rfl (by decide)
theorem x_126_17 {ls st : List Value} {h : Hp} {x : Int32} : ex 126 17 ls (.int x :: st) h = ex 126 19 (ls.set 4 (.int x)) st h := x_istore hc_126 dX8_lives_17 rfl (by decide)
theorem x_126_19 {ls st : List Value} {h : Hp}  : ex 126 19 ls (st) h = ex 126 20 ls (.int (0) :: st) h := x_iconst hc_126 dX8_lives_19 rfl (by decide)
theorem x_126_20 {ls st : List Value} {h : Hp} {x : Int32} : ex 126 20 ls (.int x :: st) h = ex 126 22 (ls.set 5 (.int x)) st h := x_istore hc_126 dX8_lives_20 rfl (by decide)
theorem x_126_22 {ls st : List Value} {h : Hp}  : ex 126 22 ls (st) h = gI (ldI ls 5) 126 24 ls st h := x_iload hc_126 dX8_lives_22 rfl
theorem x_126_24 {ls st : List Value} {h : Hp}  : ex 126 24 ls (st) h = ex 126 25 ls (.int (4) :: st) h := x_iconst hc_126 dX8_lives_24 rfl (by decide)
theorem x_126_25 {ls st : List Value} {h : Hp} {x z : Int32} : ex 126 25 ls (.int z :: .int x :: st) h = if x < z then ex 126 28 ls st h else ex 126 64 ls st h := x_icmp_ge hc_126 dX8_lives_25 rfl (by decide)
theorem x_126_28 {ls st : List Value} {h : Hp}  : ex 126 28 ls (st) h = gA (ldA ls 0) 126 29 ls st h := x_aload_n hc_126 dX8_lives_28 rfl rfl
theorem x_126_29 {ls st : List Value} {h : Hp} {k : Nat} : ex 126 29 ls (.ref k :: st) h = if kd k = 8 then ex 126 32 ls (vl h k 30 :: st) h else none := x_getf hc_126 dX8_lives_29 rfl fr_8_78
theorem x_126_32 {ls st : List Value} {h : Hp}  : ex 126 32 ls (st) h = ex 126 33 ls (.int (4) :: st) h := x_iconst hc_126 dX8_lives_32 rfl (by decide)
theorem x_126_33 {ls st : List Value} {h : Hp}  : ex 126 33 ls (st) h = gI (ldI ls 1) 126 34 ls st h := x_iload_n hc_126 dX8_lives_33 rfl rfl
theorem x_126_34 {ls st : List Value} {h : Hp} {a b : Int32} : ex 126 34 ls (.int b :: .int a :: st) h = ex 126 35 ls (.int (a * b) :: st) h := x_imul hc_126 dX8_lives_34 rfl
theorem x_126_35 {ls st : List Value} {h : Hp}  : ex 126 35 ls (st) h = gI (ldI ls 5) 126 37 ls st h := x_iload hc_126 dX8_lives_35 rfl
theorem x_126_37 {ls st : List Value} {h : Hp} {a b : Int32} : ex 126 37 ls (.int b :: .int a :: st) h = ex 126 38 ls (.int (a + b) :: st) h := x_iadd hc_126 dX8_lives_37 rfl
theorem x_126_38 {ls st : List Value} {h : Hp} {k : Nat} {x : Int32} : ex 126 38 ls (.int x :: .ref k :: st) h = if kd k = 9 ∧ x.toNatClampNeg < ln k ∧ 0 ≤ x then ex 126 39 ls (.int (h k x.toNatClampNeg) :: st) h else none := x_iald hc_126 dX8_lives_38 rfl
theorem x_126_39 {ls st : List Value} {h : Hp} {x : Int32} : ex 126 39 ls (.int x :: st) h = if 0 < x then ex 126 42 ls st h else ex 126 58 ls st h := x_if_le hc_126 dX8_lives_39 rfl (by decide)
theorem x_126_42 {ls st : List Value} {h : Hp}  : ex 126 42 ls (st) h = gI (ldI ls 4) 126 44 ls st h := x_iload hc_126 dX8_lives_42 rfl
theorem x_126_44 {ls st : List Value} {h : Hp}  : ex 126 44 ls (st) h = gA (ldA ls 0) 126 45 ls st h := x_aload_n hc_126 dX8_lives_44 rfl rfl
theorem x_126_45 {ls st : List Value} {h : Hp} {k : Nat} : ex 126 45 ls (.ref k :: st) h = if kd k = 8 then ex 126 48 ls (vl h k 30 :: st) h else none := x_getf hc_126 dX8_lives_45 rfl fr_8_78
theorem x_126_48 {ls st : List Value} {h : Hp}  : ex 126 48 ls (st) h = ex 126 49 ls (.int (4) :: st) h := x_iconst hc_126 dX8_lives_48 rfl (by decide)
theorem x_126_49 {ls st : List Value} {h : Hp}  : ex 126 49 ls (st) h = gI (ldI ls 1) 126 50 ls st h := x_iload_n hc_126 dX8_lives_49 rfl rfl
theorem x_126_50 {ls st : List Value} {h : Hp} {a b : Int32} : ex 126 50 ls (.int b :: .int a :: st) h = ex 126 51 ls (.int (a * b) :: st) h := x_imul hc_126 dX8_lives_50 rfl
theorem x_126_51 {ls st : List Value} {h : Hp}  : ex 126 51 ls (st) h = gI (ldI ls 5) 126 53 ls st h := x_iload hc_126 dX8_lives_51 rfl
theorem x_126_53 {ls st : List Value} {h : Hp} {a b : Int32} : ex 126 53 ls (.int b :: .int a :: st) h = ex 126 54 ls (.int (a + b) :: st) h := x_iadd hc_126 dX8_lives_53 rfl
theorem x_126_54 {ls st : List Value} {h : Hp} {k : Nat} {x : Int32} : ex 126 54 ls (.int x :: .ref k :: st) h = if kd k = 9 ∧ x.toNatClampNeg < ln k ∧ 0 ≤ x then ex 126 55 ls (.int (h k x.toNatClampNeg) :: st) h else none := x_iald hc_126 dX8_lives_54 rfl
theorem x_126_55 {ls st : List Value} {h : Hp} {a b : Int32} : ex 126 55 ls (.int b :: .int a :: st) h = ex 126 56 ls (.int (a + b) :: st) h := x_iadd hc_126 dX8_lives_55 rfl
theorem x_126_56 {ls st : List Value} {h : Hp} {x : Int32} : ex 126 56 ls (.int x :: st) h = ex 126 58 (ls.set 4 (.int x)) st h := x_istore hc_126 dX8_lives_56 rfl (by decide)
theorem x_126_58 {ls st : List Value} {h : Hp}  : ex 126 58 ls (st) h = gN (ldI ls 5) 126 61 ls 5 (1) st h := x_iinc hc_126 dX8_lives_58 rfl (by decide) (by decide)
theorem x_126_61 {ls st : List Value} {h : Hp}  : ex 126 61 ls (st) h = ex 126 22 ls st h := x_goto hc_126 dX8_lives_61 (by decide)
theorem x_126_64 {ls st : List Value} {h : Hp}  : ex 126 64 ls (st) h = gI (ldI ls 4) 126 66 ls st h := x_iload hc_126 dX8_lives_64 rfl
theorem x_126_66 {ls st : List Value} {h : Hp}  : ex 126 66 ls (st) h = ex 126 68 ls (.int (100) :: st) h := x_bipush hc_126 dX8_lives_66 rfl (by decide)
theorem x_126_68 {ls st : List Value} {h : Hp} {a b : Int32} : ex 126 68 ls (.int b :: .int a :: st) h = if b = 0 then none else ex 126 69 ls (.int (a / b) :: st) h := x_idiv hc_126 dX8_lives_68 rfl
theorem x_126_69 {ls st : List Value} {h : Hp} {x : Int32} : ex 126 69 ls (.int x :: st) h = ex 126 71 (ls.set 4 (.int x)) st h := x_istore hc_126 dX8_lives_69 rfl (by decide)
theorem x_126_71 {ls st : List Value} {h : Hp}  : ex 126 71 ls (st) h = gI (ldI ls 4) 126 73 ls st h := x_iload hc_126 dX8_lives_71 rfl
theorem x_126_73 {ls st : List Value} {h : Hp}  : ex 126 73 ls (st) h = gA (ldA ls 0) 126 74 ls st h := x_aload_n hc_126 dX8_lives_73 rfl rfl
theorem x_126_74 {ls st : List Value} {h : Hp} {k : Nat} : ex 126 74 ls (.ref k :: st) h = if kd k = 8 then ex 126 77 ls (vl h k 18 :: st) h else none := x_getf hc_126 dX8_lives_74 rfl fr_8_41
theorem x_126_77 {ls st : List Value} {h : Hp}  : ex 126 77 ls (st) h = gI (ldI ls 1) 126 78 ls st h := x_iload_n hc_126 dX8_lives_77 rfl rfl
theorem x_126_78 {ls st : List Value} {h : Hp} {k : Nat} {x : Int32} : ex 126 78 ls (.int x :: .ref k :: st) h = if kd k = 9 ∧ x.toNatClampNeg < ln k ∧ 0 ≤ x then ex 126 79 ls (.int (h k x.toNatClampNeg) :: st) h else none := x_iald hc_126 dX8_lives_78 rfl
theorem x_126_79 {ls st : List Value} {h : Hp} {x z : Int32} : ex 126 79 ls (.int z :: .int x :: st) h = if z < x then ex 126 82 ls st h else ex 126 90 ls st h := x_icmp_le hc_126 dX8_lives_79 rfl (by decide)
theorem x_126_82 {ls st : List Value} {h : Hp}  : ex 126 82 ls (st) h = gA (ldA ls 0) 126 83 ls st h := x_aload_n hc_126 dX8_lives_82 rfl rfl
theorem x_126_83 {ls st : List Value} {h : Hp} {k : Nat} : ex 126 83 ls (.ref k :: st) h = if kd k = 8 then ex 126 86 ls (vl h k 18 :: st) h else none := x_getf hc_126 dX8_lives_83 rfl fr_8_41
theorem x_126_86 {ls st : List Value} {h : Hp}  : ex 126 86 ls (st) h = gI (ldI ls 1) 126 87 ls st h := x_iload_n hc_126 dX8_lives_86 rfl rfl
theorem x_126_87 {ls st : List Value} {h : Hp} {k : Nat} {x : Int32} : ex 126 87 ls (.int x :: .ref k :: st) h = if kd k = 9 ∧ x.toNatClampNeg < ln k ∧ 0 ≤ x then ex 126 88 ls (.int (h k x.toNatClampNeg) :: st) h else none := x_iald hc_126 dX8_lives_87 rfl
theorem x_126_88 {ls st : List Value} {h : Hp} {x : Int32} : ex 126 88 ls (.int x :: st) h = ex 126 90 (ls.set 4 (.int x)) st h := x_istore hc_126 dX8_lives_88 rfl (by decide)
theorem x_126_90 {ls st : List Value} {h : Hp}  : ex 126 90 ls (st) h = gA (ldA ls 0) 126 91 ls st h := x_aload_n hc_126 dX8_lives_90 rfl rfl
theorem x_126_91 {ls st : List Value} {h : Hp} {k : Nat} : ex 126 91 ls (.ref k :: st) h = if kd k = 8 then ex 126 94 ls (vl h k 18 :: st) h else none := x_getf hc_126 dX8_lives_91 rfl fr_8_41
theorem x_126_94 {ls st : List Value} {h : Hp}  : ex 126 94 ls (st) h = gI (ldI ls 1) 126 95 ls st h := x_iload_n hc_126 dX8_lives_94 rfl rfl
theorem x_126_95ii {ls st : List Value} {h : Hp} {u : Int32} {v : Int32} : ex 126 95 ls (.int u :: .int v :: st) h = ex 126 96 ls (.int u :: .int v :: .int u :: .int v :: st) h := x_dup2_ii hc_126 dX8_lives_95 rfl
theorem x_126_95ia {ls st : List Value} {h : Hp} {u : Int32} {v : Nat} : ex 126 95 ls (.int u :: .ref v :: st) h = ex 126 96 ls (.int u :: .ref v :: .int u :: .ref v :: st) h := x_dup2_ia hc_126 dX8_lives_95 rfl
theorem x_126_95ai {ls st : List Value} {h : Hp} {u : Nat} {v : Int32} : ex 126 95 ls (.ref u :: .int v :: st) h = ex 126 96 ls (.ref u :: .int v :: .ref u :: .int v :: st) h := x_dup2_ai hc_126 dX8_lives_95 rfl
theorem x_126_95aa {ls st : List Value} {h : Hp} {u : Nat} {v : Nat} : ex 126 95 ls (.ref u :: .ref v :: st) h = ex 126 96 ls (.ref u :: .ref v :: .ref u :: .ref v :: st) h := x_dup2_aa hc_126 dX8_lives_95 rfl
theorem x_126_96 {ls st : List Value} {h : Hp} {k : Nat} {x : Int32} : ex 126 96 ls (.int x :: .ref k :: st) h = if kd k = 9 ∧ x.toNatClampNeg < ln k ∧ 0 ≤ x then ex 126 97 ls (.int (h k x.toNatClampNeg) :: st) h else none := x_iald hc_126 dX8_lives_96 rfl
theorem x_126_97 {ls st : List Value} {h : Hp}  : ex 126 97 ls (st) h = gI (ldI ls 4) 126 99 ls st h := x_iload hc_126 dX8_lives_97 rfl
theorem x_126_99 {ls st : List Value} {h : Hp} {a b : Int32} : ex 126 99 ls (.int b :: .int a :: st) h = ex 126 100 ls (.int (a - b) :: st) h := x_isub hc_126 dX8_lives_99 rfl
theorem x_126_100 {ls st : List Value} {h : Hp} {k : Nat} {x u : Int32} : ex 126 100 ls (.int u :: .int x :: .ref k :: st) h = if kd k = 9 ∧ x.toNatClampNeg < ln k ∧ 0 ≤ x then ex 126 101 ls st (hu h k x.toNatClampNeg u) else none := x_iast hc_126 dX8_lives_100 rfl
theorem x_126_101 {ls st : List Value} {h : Hp}  : ex 126 101 ls (st) h = gA (ldA ls 0) 126 102 ls st h := x_aload_n hc_126 dX8_lives_101 rfl rfl
theorem x_126_102i {ls st : List Value} {h : Hp} {u : Int32} : ex 126 102 ls (.int u :: st) h = ex 126 103 ls (.int u :: .int u :: st) h := x_dup_i hc_126 dX8_lives_102 rfl
theorem x_126_102a {ls st : List Value} {h : Hp} {u : Nat} : ex 126 102 ls (.ref u :: st) h = ex 126 103 ls (.ref u :: .ref u :: st) h := x_dup_a hc_126 dX8_lives_102 rfl
theorem x_126_103 {ls st : List Value} {h : Hp} {k : Nat} : ex 126 103 ls (.ref k :: st) h = if kd k = 8 then ex 126 106 ls (vl h k 6 :: st) h else none := x_getf hc_126 dX8_lives_103 rfl fr_8_253
theorem x_126_106 {ls st : List Value} {h : Hp}  : ex 126 106 ls (st) h = gI (ldI ls 4) 126 108 ls st h := x_iload hc_126 dX8_lives_106 rfl
theorem x_126_108 {ls st : List Value} {h : Hp} {a b : Int32} : ex 126 108 ls (.int b :: .int a :: st) h = ex 126 109 ls (.int (a + b) :: st) h := x_iadd hc_126 dX8_lives_108 rfl
theorem x_126_109 {ls st : List Value} {h : Hp} {k : Nat} {x : Int32} : ex 126 109 ls (.int x :: .ref k :: st) h = if kd k = 8 then ex 126 112 ls st (hu h k 6 x) else none := x_putf hc_126 dX8_lives_109 rfl fr_8_253 (by decide)
theorem x_126_112 {ls st : List Value} {h : Hp}  : ex 126 112 ls (st) h = gA (ldA ls 0) 126 113 ls st h := x_aload_n hc_126 dX8_lives_112 rfl rfl
theorem x_126_113 {ls st : List Value} {h : Hp}  : ex 126 113 ls (st) h = gI (ldI ls 1) 126 114 ls st h := x_iload_n hc_126 dX8_lives_113 rfl rfl
theorem x_126_114 {ls st : List Value} {h : Hp}  : ex 126 114 ls (st) h = gI (ldI ls 2) 126 115 ls st h := x_iload_n hc_126 dX8_lives_114 rfl rfl
theorem x_126_115 {ls st : List Value} {h : Hp} {k : Nat} {a0 : Int32} {a1 : Int32} : ex 126 115 ls (.int a1 :: .int a0 :: .ref k :: st) h = if kd k = 8 ∧ st.length ≤ 4 then gC (ex 129 0 [.ref k, .int a0, .int a1] [] h) 126 118 ls st else none := x_callV (as := [.int a0, .int a1]) hc_126 dX8_lives_115 rfl mr_8_239 rfl rfl rfl (by decide) (by decide)
theorem x_126_118 {ls st : List Value} {h : Hp} {x : Int32} : ex 126 118 ls (.int x :: st) h = ex 126 120 (ls.set 5 (.int x)) st h := x_istore hc_126 dX8_lives_118 rfl (by decide)
theorem x_126_120 {ls st : List Value} {h : Hp}  : ex 126 120 ls (st) h = ex 126 121 ls (.int (0) :: st) h := x_iconst hc_126 dX8_lives_120 rfl (by decide)
theorem x_126_121 {ls st : List Value} {h : Hp} {x : Int32} : ex 126 121 ls (.int x :: st) h = ex 126 123 (ls.set 6 (.int x)) st h := x_istore hc_126 dX8_lives_121 rfl (by decide)
theorem x_126_123 {ls st : List Value} {h : Hp}  : ex 126 123 ls (st) h = ex 126 124 ls (.int (0) :: st) h := x_iconst hc_126 dX8_lives_123 rfl (by decide)
theorem x_126_124 {ls st : List Value} {h : Hp} {x : Int32} : ex 126 124 ls (.int x :: st) h = ex 126 126 (ls.set 7 (.int x)) st h := x_istore hc_126 dX8_lives_124 rfl (by decide)
theorem x_126_126 {ls st : List Value} {h : Hp}  : ex 126 126 ls (st) h = gI (ldI ls 7) 126 128 ls st h := x_iload hc_126 dX8_lives_126 rfl
theorem x_126_128 {ls st : List Value} {h : Hp}  : ex 126 128 ls (st) h = ex 126 129 ls (.int (4) :: st) h := x_iconst hc_126 dX8_lives_128 rfl (by decide)
theorem x_126_129 {ls st : List Value} {h : Hp} {x z : Int32} : ex 126 129 ls (.int z :: .int x :: st) h = if x < z then ex 126 132 ls st h else ex 126 235 ls st h := x_icmp_ge hc_126 dX8_lives_129 rfl (by decide)
theorem x_126_132 {ls st : List Value} {h : Hp}  : ex 126 132 ls (st) h = ex 126 133 ls (.int (4) :: st) h := x_iconst hc_126 dX8_lives_132 rfl (by decide)
theorem x_126_133 {ls st : List Value} {h : Hp}  : ex 126 133 ls (st) h = gI (ldI ls 1) 126 134 ls st h := x_iload_n hc_126 dX8_lives_133 rfl rfl
theorem x_126_134 {ls st : List Value} {h : Hp} {a b : Int32} : ex 126 134 ls (.int b :: .int a :: st) h = ex 126 135 ls (.int (a * b) :: st) h := x_imul hc_126 dX8_lives_134 rfl
theorem x_126_135 {ls st : List Value} {h : Hp}  : ex 126 135 ls (st) h = gI (ldI ls 7) 126 137 ls st h := x_iload hc_126 dX8_lives_135 rfl
theorem x_126_137 {ls st : List Value} {h : Hp} {a b : Int32} : ex 126 137 ls (.int b :: .int a :: st) h = ex 126 138 ls (.int (a + b) :: st) h := x_iadd hc_126 dX8_lives_137 rfl
theorem x_126_138 {ls st : List Value} {h : Hp} {x : Int32} : ex 126 138 ls (.int x :: st) h = ex 126 140 (ls.set 8 (.int x)) st h := x_istore hc_126 dX8_lives_138 rfl (by decide)
theorem x_126_140 {ls st : List Value} {h : Hp}  : ex 126 140 ls (st) h = gA (ldA ls 0) 126 141 ls st h := x_aload_n hc_126 dX8_lives_140 rfl rfl
theorem x_126_141 {ls st : List Value} {h : Hp} {k : Nat} : ex 126 141 ls (.ref k :: st) h = if kd k = 8 then ex 126 144 ls (vl h k 30 :: st) h else none := x_getf hc_126 dX8_lives_141 rfl fr_8_78
theorem x_126_144 {ls st : List Value} {h : Hp}  : ex 126 144 ls (st) h = gI (ldI ls 8) 126 146 ls st h := x_iload hc_126 dX8_lives_144 rfl
theorem x_126_146ii {ls st : List Value} {h : Hp} {u : Int32} {v : Int32} : ex 126 146 ls (.int u :: .int v :: st) h = ex 126 147 ls (.int u :: .int v :: .int u :: .int v :: st) h := x_dup2_ii hc_126 dX8_lives_146 rfl
theorem x_126_146ia {ls st : List Value} {h : Hp} {u : Int32} {v : Nat} : ex 126 146 ls (.int u :: .ref v :: st) h = ex 126 147 ls (.int u :: .ref v :: .int u :: .ref v :: st) h := x_dup2_ia hc_126 dX8_lives_146 rfl
theorem x_126_146ai {ls st : List Value} {h : Hp} {u : Nat} {v : Int32} : ex 126 146 ls (.ref u :: .int v :: st) h = ex 126 147 ls (.ref u :: .int v :: .ref u :: .int v :: st) h := x_dup2_ai hc_126 dX8_lives_146 rfl
theorem x_126_146aa {ls st : List Value} {h : Hp} {u : Nat} {v : Nat} : ex 126 146 ls (.ref u :: .ref v :: st) h = ex 126 147 ls (.ref u :: .ref v :: .ref u :: .ref v :: st) h := x_dup2_aa hc_126 dX8_lives_146 rfl
theorem x_126_147 {ls st : List Value} {h : Hp} {k : Nat} {x : Int32} : ex 126 147 ls (.int x :: .ref k :: st) h = if kd k = 9 ∧ x.toNatClampNeg < ln k ∧ 0 ≤ x then ex 126 148 ls (.int (h k x.toNatClampNeg) :: st) h else none := x_iald hc_126 dX8_lives_147 rfl
theorem x_126_148 {ls st : List Value} {h : Hp}  : ex 126 148 ls (st) h = gI (ldI ls 5) 126 150 ls st h := x_iload hc_126 dX8_lives_148 rfl
theorem x_126_150 {ls st : List Value} {h : Hp}  : ex 126 150 ls (st) h = gA (ldA ls 0) 126 151 ls st h := x_aload_n hc_126 dX8_lives_150 rfl rfl
theorem x_126_151 {ls st : List Value} {h : Hp} {k : Nat} : ex 126 151 ls (.ref k :: st) h = if kd k = 8 then ex 126 154 ls (vl h k 30 :: st) h else none := x_getf hc_126 dX8_lives_151 rfl fr_8_78
theorem x_126_154 {ls st : List Value} {h : Hp}  : ex 126 154 ls (st) h = gI (ldI ls 8) 126 156 ls st h := x_iload hc_126 dX8_lives_154 rfl
theorem x_126_156 {ls st : List Value} {h : Hp} {k : Nat} {x : Int32} : ex 126 156 ls (.int x :: .ref k :: st) h = if kd k = 9 ∧ x.toNatClampNeg < ln k ∧ 0 ≤ x then ex 126 157 ls (.int (h k x.toNatClampNeg) :: st) h else none := x_iald hc_126 dX8_lives_156 rfl
theorem x_126_157 {ls st : List Value} {h : Hp} {a b : Int32} : ex 126 157 ls (.int b :: .int a :: st) h = ex 126 158 ls (.int (a - b) :: st) h := x_isub hc_126 dX8_lives_157 rfl
theorem x_126_158 {ls st : List Value} {h : Hp}  : ex 126 158 ls (st) h = gA (ldA ls 0) 126 159 ls st h := x_aload_n hc_126 dX8_lives_158 rfl rfl
theorem x_126_159 {ls st : List Value} {h : Hp} {k : Nat} : ex 126 159 ls (.ref k :: st) h = if kd k = 8 then ex 126 162 ls (vl h k 17 :: st) h else none := x_getf hc_126 dX8_lives_159 rfl fr_8_38
theorem x_126_162 {ls st : List Value} {h : Hp}  : ex 126 162 ls (st) h = gI (ldI ls 1) 126 163 ls st h := x_iload_n hc_126 dX8_lives_162 rfl rfl
theorem x_126_163 {ls st : List Value} {h : Hp} {k : Nat} {x : Int32} : ex 126 163 ls (.int x :: .ref k :: st) h = if kd k = 9 ∧ x.toNatClampNeg < ln k ∧ 0 ≤ x then ex 126 164 ls (.int (h k x.toNatClampNeg) :: st) h else none := x_iald hc_126 dX8_lives_163 rfl
theorem x_126_164 {ls st : List Value} {h : Hp}  : ex 126 164 ls (st) h = ex 126 166 ls (.int (15) :: st) h := x_bipush hc_126 dX8_lives_164 rfl (by decide)
theorem x_126_166 {ls st : List Value} {h : Hp}  : ex 126 166 ls (st) h = gA (ldA ls 0) 126 167 ls st h := x_aload_n hc_126 dX8_lives_166 rfl rfl
theorem x_126_167 {ls st : List Value} {h : Hp} {k : Nat} : ex 126 167 ls (.ref k :: st) h = if kd k = 8 then ex 126 170 ls (vl h k 19 :: st) h else none := x_getf hc_126 dX8_lives_167 rfl fr_8_44
theorem x_126_170 {ls st : List Value} {h : Hp}  : ex 126 170 ls (st) h = gI (ldI ls 1) 126 171 ls st h := x_iload_n hc_126 dX8_lives_170 rfl rfl
theorem x_126_171 {ls st : List Value} {h : Hp} {k : Nat} {x : Int32} : ex 126 171 ls (.int x :: .ref k :: st) h = if kd k = 9 ∧ x.toNatClampNeg < ln k ∧ 0 ≤ x then ex 126 172 ls (.int (h k x.toNatClampNeg) :: st) h else none := x_iald hc_126 dX8_lives_171 rfl
theorem x_126_172 {ls st : List Value} {h : Hp} {a b : Int32} : ex 126 172 ls (.int b :: .int a :: st) h = ex 126 173 ls (.int (a * b) :: st) h := x_imul hc_126 dX8_lives_172 rfl
theorem x_126_173 {ls st : List Value} {h : Hp} {a b : Int32} : ex 126 173 ls (.int b :: .int a :: st) h = ex 126 174 ls (.int (a + b) :: st) h := x_iadd hc_126 dX8_lives_173 rfl
theorem x_126_174 {ls st : List Value} {h : Hp} {a b : Int32} : ex 126 174 ls (.int b :: .int a :: st) h = ex 126 175 ls (.int (a * b) :: st) h := x_imul hc_126 dX8_lives_174 rfl
theorem x_126_175 {ls st : List Value} {h : Hp}  : ex 126 175 ls (st) h = ex 126 177 ls (.int (100) :: st) h := x_bipush hc_126 dX8_lives_175 rfl (by decide)
theorem x_126_177 {ls st : List Value} {h : Hp} {a b : Int32} : ex 126 177 ls (.int b :: .int a :: st) h = if b = 0 then none else ex 126 178 ls (.int (a / b) :: st) h := x_idiv hc_126 dX8_lives_177 rfl
theorem x_126_178 {ls st : List Value} {h : Hp} {a b : Int32} : ex 126 178 ls (.int b :: .int a :: st) h = ex 126 179 ls (.int (a + b) :: st) h := x_iadd hc_126 dX8_lives_178 rfl
theorem x_126_179 {ls st : List Value} {h : Hp} {k : Nat} {x u : Int32} : ex 126 179 ls (.int u :: .int x :: .ref k :: st) h = if kd k = 9 ∧ x.toNatClampNeg < ln k ∧ 0 ≤ x then ex 126 180 ls st (hu h k x.toNatClampNeg u) else none := x_iast hc_126 dX8_lives_179 rfl
theorem x_126_180 {ls st : List Value} {h : Hp}  : ex 126 180 ls (st) h = gA (ldA ls 0) 126 181 ls st h := x_aload_n hc_126 dX8_lives_180 rfl rfl
theorem x_126_181 {ls st : List Value} {h : Hp} {k : Nat} : ex 126 181 ls (.ref k :: st) h = if kd k = 8 then ex 126 184 ls (vl h k 30 :: st) h else none := x_getf hc_126 dX8_lives_181 rfl fr_8_78
theorem x_126_184 {ls st : List Value} {h : Hp}  : ex 126 184 ls (st) h = gI (ldI ls 8) 126 186 ls st h := x_iload hc_126 dX8_lives_184 rfl
theorem x_126_186ii {ls st : List Value} {h : Hp} {u : Int32} {v : Int32} : ex 126 186 ls (.int u :: .int v :: st) h = ex 126 187 ls (.int u :: .int v :: .int u :: .int v :: st) h := x_dup2_ii hc_126 dX8_lives_186 rfl
theorem x_126_186ia {ls st : List Value} {h : Hp} {u : Int32} {v : Nat} : ex 126 186 ls (.int u :: .ref v :: st) h = ex 126 187 ls (.int u :: .ref v :: .int u :: .ref v :: st) h := x_dup2_ia hc_126 dX8_lives_186 rfl
theorem x_126_186ai {ls st : List Value} {h : Hp} {u : Nat} {v : Int32} : ex 126 186 ls (.ref u :: .int v :: st) h = ex 126 187 ls (.ref u :: .int v :: .ref u :: .int v :: st) h := x_dup2_ai hc_126 dX8_lives_186 rfl
theorem x_126_186aa {ls st : List Value} {h : Hp} {u : Nat} {v : Nat} : ex 126 186 ls (.ref u :: .ref v :: st) h = ex 126 187 ls (.ref u :: .ref v :: .ref u :: .ref v :: st) h := x_dup2_aa hc_126 dX8_lives_186 rfl
theorem x_126_187 {ls st : List Value} {h : Hp} {k : Nat} {x : Int32} : ex 126 187 ls (.int x :: .ref k :: st) h = if kd k = 9 ∧ x.toNatClampNeg < ln k ∧ 0 ≤ x then ex 126 188 ls (.int (h k x.toNatClampNeg) :: st) h else none := x_iald hc_126 dX8_lives_187 rfl
theorem x_126_188 {ls st : List Value} {h : Hp}  : ex 126 188 ls (st) h = gI (ldI ls 4) 126 190 ls st h := x_iload hc_126 dX8_lives_188 rfl
theorem x_126_190 {ls st : List Value} {h : Hp}  : ex 126 190 ls (st) h = ex 126 191 ls (.int (4) :: st) h := x_iconst hc_126 dX8_lives_190 rfl (by decide)
theorem x_126_191 {ls st : List Value} {h : Hp}  : ex 126 191 ls (st) h = gI (ldI ls 7) 126 193 ls st h := x_iload hc_126 dX8_lives_191 rfl
theorem x_126_193 {ls st : List Value} {h : Hp} {a b : Int32} : ex 126 193 ls (.int b :: .int a :: st) h = ex 126 194 ls (.int (a - b) :: st) h := x_isub hc_126 dX8_lives_193 rfl
theorem x_126_194 {ls st : List Value} {h : Hp} {a b : Int32} : ex 126 194 ls (.int b :: .int a :: st) h = ex 126 195 ls (.int (a * b) :: st) h := x_imul hc_126 dX8_lives_194 rfl
theorem x_126_195 {ls st : List Value} {h : Hp}  : ex 126 195 ls (st) h = ex 126 196 ls (.int (2) :: st) h := x_iconst hc_126 dX8_lives_195 rfl (by decide)
theorem x_126_196 {ls st : List Value} {h : Hp} {a b : Int32} : ex 126 196 ls (.int b :: .int a :: st) h = if b = 0 then none else ex 126 197 ls (.int (a / b) :: st) h := x_idiv hc_126 dX8_lives_196 rfl
theorem x_126_197 {ls st : List Value} {h : Hp} {a b : Int32} : ex 126 197 ls (.int b :: .int a :: st) h = ex 126 198 ls (.int (a - b) :: st) h := x_isub hc_126 dX8_lives_197 rfl
theorem x_126_198 {ls st : List Value} {h : Hp} {k : Nat} {x u : Int32} : ex 126 198 ls (.int u :: .int x :: .ref k :: st) h = if kd k = 9 ∧ x.toNatClampNeg < ln k ∧ 0 ≤ x then ex 126 199 ls st (hu h k x.toNatClampNeg u) else none := x_iast hc_126 dX8_lives_198 rfl
theorem x_126_199 {ls st : List Value} {h : Hp}  : ex 126 199 ls (st) h = gA (ldA ls 0) 126 200 ls st h := x_aload_n hc_126 dX8_lives_199 rfl rfl
theorem x_126_200 {ls st : List Value} {h : Hp} {k : Nat} : ex 126 200 ls (.ref k :: st) h = if kd k = 8 then ex 126 203 ls (vl h k 31 :: st) h else none := x_getf hc_126 dX8_lives_200 rfl fr_8_81
theorem x_126_203 {ls st : List Value} {h : Hp}  : ex 126 203 ls (st) h = gI (ldI ls 8) 126 205 ls st h := x_iload hc_126 dX8_lives_203 rfl
theorem x_126_205 {ls st : List Value} {h : Hp} {k : Nat} {x : Int32} : ex 126 205 ls (.int x :: .ref k :: st) h = if kd k = 9 ∧ x.toNatClampNeg < ln k ∧ 0 ≤ x then ex 126 206 ls (.int (h k x.toNatClampNeg) :: st) h else none := x_iald hc_126 dX8_lives_205 rfl
theorem x_126_206 {ls st : List Value} {h : Hp}  : ex 126 206 ls (st) h = ex 126 207 ls (.int (-1) :: st) h := x_iconst hc_126 dX8_lives_206 rfl (by decide)
theorem x_126_207 {ls st : List Value} {h : Hp} {x z : Int32} : ex 126 207 ls (.int z :: .int x :: st) h = if x = z then ex 126 229 ls st h else ex 126 210 ls st h := x_icmp_eq hc_126 dX8_lives_207 rfl (by decide)
theorem x_126_210 {ls st : List Value} {h : Hp}  : ex 126 210 ls (st) h = gI (ldI ls 6) 126 212 ls st h := x_iload hc_126 dX8_lives_210 rfl
theorem x_126_212 {ls st : List Value} {h : Hp}  : ex 126 212 ls (st) h = gA (ldA ls 0) 126 213 ls st h := x_aload_n hc_126 dX8_lives_212 rfl rfl
theorem x_126_213 {ls st : List Value} {h : Hp}  : ex 126 213 ls (st) h = gI (ldI ls 8) 126 215 ls st h := x_iload hc_126 dX8_lives_213 rfl
theorem x_126_215 {ls st : List Value} {h : Hp} {k : Nat} {a0 : Int32} : ex 126 215 ls (.int a0 :: .ref k :: st) h = if kd k = 8 ∧ st.length ≤ 4 then gC (ex 130 0 [.ref k, .int a0, .null, .null] [] h) 126 218 ls st else none := x_callV (as := [.int a0]) hc_126 dX8_lives_215 rfl mr_8_256 rfl rfl rfl (by decide) (by decide)
theorem x_126_218 {ls st : List Value} {h : Hp}  : ex 126 218 ls (st) h = gA (ldA ls 0) 126 219 ls st h := x_aload_n hc_126 dX8_lives_218 rfl rfl
theorem x_126_219 {ls st : List Value} {h : Hp} {k : Nat} : ex 126 219 ls (.ref k :: st) h = if kd k = 8 then ex 126 222 ls (vl h k 32 :: st) h else none := x_getf hc_126 dX8_lives_219 rfl fr_8_84
theorem x_126_222 {ls st : List Value} {h : Hp}  : ex 126 222 ls (st) h = gI (ldI ls 8) 126 224 ls st h := x_iload hc_126 dX8_lives_222 rfl
theorem x_126_224 {ls st : List Value} {h : Hp} {k : Nat} {x : Int32} : ex 126 224 ls (.int x :: .ref k :: st) h = if kd k = 9 ∧ x.toNatClampNeg < ln k ∧ 0 ≤ x then ex 126 225 ls (.int (h k x.toNatClampNeg) :: st) h else none := x_iald hc_126 dX8_lives_224 rfl
theorem x_126_225 {ls st : List Value} {h : Hp} {a b : Int32} : ex 126 225 ls (.int b :: .int a :: st) h = ex 126 226 ls (.int (a * b) :: st) h := x_imul hc_126 dX8_lives_225 rfl
theorem x_126_226 {ls st : List Value} {h : Hp} {a b : Int32} : ex 126 226 ls (.int b :: .int a :: st) h = ex 126 227 ls (.int (a + b) :: st) h := x_iadd hc_126 dX8_lives_226 rfl
theorem x_126_227 {ls st : List Value} {h : Hp} {x : Int32} : ex 126 227 ls (.int x :: st) h = ex 126 229 (ls.set 6 (.int x)) st h := x_istore hc_126 dX8_lives_227 rfl (by decide)
theorem x_126_229 {ls st : List Value} {h : Hp}  : ex 126 229 ls (st) h = gN (ldI ls 7) 126 232 ls 7 (1) st h := x_iinc hc_126 dX8_lives_229 rfl (by decide) (by decide)
theorem x_126_232 {ls st : List Value} {h : Hp}  : ex 126 232 ls (st) h = ex 126 126 ls st h := x_goto hc_126 dX8_lives_232 (by decide)
theorem x_126_235 {ls st : List Value} {h : Hp}  : ex 126 235 ls (st) h = gA (ldA ls 0) 126 236 ls st h := x_aload_n hc_126 dX8_lives_235 rfl rfl
theorem x_126_236 {ls st : List Value} {h : Hp} {k : Nat} : ex 126 236 ls (.ref k :: st) h = if kd k = 8 then ex 126 239 ls (vl h k 28 :: st) h else none := x_getf hc_126 dX8_lives_236 rfl fr_8_72
theorem x_126_239 {ls st : List Value} {h : Hp}  : ex 126 239 ls (st) h = gI (ldI ls 1) 126 240 ls st h := x_iload_n hc_126 dX8_lives_239 rfl rfl
theorem x_126_240 {ls st : List Value} {h : Hp} {k : Nat} {x : Int32} : ex 126 240 ls (.int x :: .ref k :: st) h = if kd k = 10 ∧ x.toNatClampNeg < ln k ∧ 0 ≤ x then ex 126 241 ls (.int (h k x.toNatClampNeg) :: st) h else none := x_zald hc_126 dX8_lives_240 rfl
theorem x_126_241 {ls st : List Value} {h : Hp} {x : Int32} : ex 126 241 ls (.int x :: st) h = if x = 0 then ex 126 298 ls st h else ex 126 244 ls st h := x_if_eq hc_126 dX8_lives_241 rfl (by decide)
theorem x_126_244 {ls st : List Value} {h : Hp}  : ex 126 244 ls (st) h = gA (ldA ls 0) 126 245 ls st h := x_aload_n hc_126 dX8_lives_244 rfl rfl
theorem x_126_245 {ls st : List Value} {h : Hp} {k : Nat} : ex 126 245 ls (.ref k :: st) h = if kd k = 8 then ex 126 248 ls (vl h k 29 :: st) h else none := x_getf hc_126 dX8_lives_245 rfl fr_8_75
theorem x_126_248 {ls st : List Value} {h : Hp}  : ex 126 248 ls (st) h = ex 126 249 ls (.int (3) :: st) h := x_iconst hc_126 dX8_lives_248 rfl (by decide)
theorem x_126_249 {ls st : List Value} {h : Hp}  : ex 126 249 ls (st) h = gI (ldI ls 1) 126 250 ls st h := x_iload_n hc_126 dX8_lives_249 rfl rfl
theorem x_126_250 {ls st : List Value} {h : Hp} {a b : Int32} : ex 126 250 ls (.int b :: .int a :: st) h = ex 126 251 ls (.int (a * b) :: st) h := x_imul hc_126 dX8_lives_250 rfl
theorem x_126_251 {ls st : List Value} {h : Hp}  : ex 126 251 ls (st) h = gA (ldA ls 0) 126 252 ls st h := x_aload_n hc_126 dX8_lives_251 rfl rfl
theorem x_126_252 {ls st : List Value} {h : Hp} {k : Nat} : ex 126 252 ls (.ref k :: st) h = if kd k = 8 then ex 126 255 ls (vl h k 26 :: st) h else none := x_getf hc_126 dX8_lives_252 rfl fr_8_65
theorem x_126_255 {ls st : List Value} {h : Hp}  : ex 126 255 ls (st) h = gI (ldI ls 1) 126 256 ls st h := x_iload_n hc_126 dX8_lives_255 rfl rfl
theorem x_126_256 {ls st : List Value} {h : Hp} {k : Nat} {x : Int32} : ex 126 256 ls (.int x :: .ref k :: st) h = if kd k = 9 ∧ x.toNatClampNeg < ln k ∧ 0 ≤ x then ex 126 257 ls (.int (h k x.toNatClampNeg) :: st) h else none := x_iald hc_126 dX8_lives_256 rfl
theorem x_126_257 {ls st : List Value} {h : Hp} {x : Int32} : ex 126 257 ls (.int x :: st) h = if 0 < x then ex 126 260 ls st h else ex 126 264 ls st h := x_if_le hc_126 dX8_lives_257 rfl (by decide)
theorem x_126_260 {ls st : List Value} {h : Hp}  : ex 126 260 ls (st) h = ex 126 261 ls (.int (0) :: st) h := x_iconst hc_126 dX8_lives_260 rfl (by decide)
theorem x_126_261 {ls st : List Value} {h : Hp}  : ex 126 261 ls (st) h = ex 126 287 ls st h := x_goto hc_126 dX8_lives_261 (by decide)
theorem x_126_264 {ls st : List Value} {h : Hp}  : ex 126 264 ls (st) h = gA (ldA ls 0) 126 265 ls st h := x_aload_n hc_126 dX8_lives_264 rfl rfl
theorem x_126_265 {ls st : List Value} {h : Hp} {k : Nat} : ex 126 265 ls (.ref k :: st) h = if kd k = 8 then ex 126 268 ls (vl h k 22 :: st) h else none := x_getf hc_126 dX8_lives_265 rfl fr_8_53
theorem x_126_268 {ls st : List Value} {h : Hp}  : ex 126 268 ls (st) h = gI (ldI ls 1) 126 269 ls st h := x_iload_n hc_126 dX8_lives_268 rfl rfl
theorem x_126_269 {ls st : List Value} {h : Hp} {k : Nat} {x : Int32} : ex 126 269 ls (.int x :: .ref k :: st) h = if kd k = 9 ∧ x.toNatClampNeg < ln k ∧ 0 ≤ x then ex 126 270 ls (.int (h k x.toNatClampNeg) :: st) h else none := x_iald hc_126 dX8_lives_269 rfl
theorem x_126_270 {ls st : List Value} {h : Hp} {x : Int32} : ex 126 270 ls (.int x :: st) h = if x = 0 then ex 126 273 ls st h else ex 126 286 ls st h := x_if_ne hc_126 dX8_lives_270 rfl (by decide)
theorem x_126_273 {ls st : List Value} {h : Hp}  : ex 126 273 ls (st) h = gA (ldA ls 0) 126 274 ls st h := x_aload_n hc_126 dX8_lives_273 rfl rfl
theorem x_126_274 {ls st : List Value} {h : Hp} {k : Nat} : ex 126 274 ls (.ref k :: st) h = if kd k = 8 then ex 126 277 ls (vl h k 24 :: st) h else none := x_getf hc_126 dX8_lives_274 rfl fr_8_59
theorem x_126_277 {ls st : List Value} {h : Hp}  : ex 126 277 ls (st) h = gI (ldI ls 1) 126 278 ls st h := x_iload_n hc_126 dX8_lives_277 rfl rfl
theorem x_126_278 {ls st : List Value} {h : Hp} {k : Nat} {x : Int32} : ex 126 278 ls (.int x :: .ref k :: st) h = if kd k = 9 ∧ x.toNatClampNeg < ln k ∧ 0 ≤ x then ex 126 279 ls (.int (h k x.toNatClampNeg) :: st) h else none := x_iald hc_126 dX8_lives_278 rfl
theorem x_126_279 {ls st : List Value} {h : Hp} {x : Int32} : ex 126 279 ls (.int x :: st) h = if 0 < x then ex 126 282 ls st h else ex 126 286 ls st h := x_if_le hc_126 dX8_lives_279 rfl (by decide)
theorem x_126_282 {ls st : List Value} {h : Hp}  : ex 126 282 ls (st) h = ex 126 283 ls (.int (1) :: st) h := x_iconst hc_126 dX8_lives_282 rfl (by decide)
theorem x_126_283 {ls st : List Value} {h : Hp}  : ex 126 283 ls (st) h = ex 126 287 ls st h := x_goto hc_126 dX8_lives_283 (by decide)
theorem x_126_286 {ls st : List Value} {h : Hp}  : ex 126 286 ls (st) h = ex 126 287 ls (.int (2) :: st) h := x_iconst hc_126 dX8_lives_286 rfl (by decide)
theorem x_126_287 {ls st : List Value} {h : Hp} {a b : Int32} : ex 126 287 ls (.int b :: .int a :: st) h = ex 126 288 ls (.int (a + b) :: st) h := x_iadd hc_126 dX8_lives_287 rfl
theorem x_126_288ii {ls st : List Value} {h : Hp} {u : Int32} {v : Int32} : ex 126 288 ls (.int u :: .int v :: st) h = ex 126 289 ls (.int u :: .int v :: .int u :: .int v :: st) h := x_dup2_ii hc_126 dX8_lives_288 rfl
theorem x_126_288ia {ls st : List Value} {h : Hp} {u : Int32} {v : Nat} : ex 126 288 ls (.int u :: .ref v :: st) h = ex 126 289 ls (.int u :: .ref v :: .int u :: .ref v :: st) h := x_dup2_ia hc_126 dX8_lives_288 rfl
theorem x_126_288ai {ls st : List Value} {h : Hp} {u : Nat} {v : Int32} : ex 126 288 ls (.ref u :: .int v :: st) h = ex 126 289 ls (.ref u :: .int v :: .ref u :: .int v :: st) h := x_dup2_ai hc_126 dX8_lives_288 rfl
theorem x_126_288aa {ls st : List Value} {h : Hp} {u : Nat} {v : Nat} : ex 126 288 ls (.ref u :: .ref v :: st) h = ex 126 289 ls (.ref u :: .ref v :: .ref u :: .ref v :: st) h := x_dup2_aa hc_126 dX8_lives_288 rfl
theorem x_126_289 {ls st : List Value} {h : Hp} {k : Nat} {x : Int32} : ex 126 289 ls (.int x :: .ref k :: st) h = if kd k = 9 ∧ x.toNatClampNeg < ln k ∧ 0 ≤ x then ex 126 290 ls (.int (h k x.toNatClampNeg) :: st) h else none := x_iald hc_126 dX8_lives_289 rfl
theorem x_126_290 {ls st : List Value} {h : Hp}  : ex 126 290 ls (st) h = gI (ldI ls 6) 126 292 ls st h := x_iload hc_126 dX8_lives_290 rfl
theorem x_126_292 {ls st : List Value} {h : Hp}  : ex 126 292 ls (st) h = ex 126 295 ls (.int (1000) :: st) h := x_sipush hc_126 dX8_lives_292 rfl (by decide)
theorem x_126_295 {ls st : List Value} {h : Hp} {a b : Int32} : ex 126 295 ls (.int b :: .int a :: st) h = if b = 0 then none else ex 126 296 ls (.int (a / b) :: st) h := x_idiv hc_126 dX8_lives_295 rfl
theorem x_126_296 {ls st : List Value} {h : Hp} {a b : Int32} : ex 126 296 ls (.int b :: .int a :: st) h = ex 126 297 ls (.int (a + b) :: st) h := x_iadd hc_126 dX8_lives_296 rfl
theorem x_126_297 {ls st : List Value} {h : Hp} {k : Nat} {x u : Int32} : ex 126 297 ls (.int u :: .int x :: .ref k :: st) h = if kd k = 9 ∧ x.toNatClampNeg < ln k ∧ 0 ≤ x then ex 126 298 ls st (hu h k x.toNatClampNeg u) else none := x_iast hc_126 dX8_lives_297 rfl
theorem x_126_298 {ls st : List Value} {h : Hp}  : ex 126 298 ls (st) h = gA (ldA ls 0) 126 299 ls st h := x_aload_n hc_126 dX8_lives_298 rfl rfl
theorem x_126_299 {ls st : List Value} {h : Hp} {k : Nat} : ex 126 299 ls (.ref k :: st) h = if kd k = 8 then ex 126 302 ls (vl h k 23 :: st) h else none := x_getf hc_126 dX8_lives_299 rfl fr_8_56
theorem x_126_302 {ls st : List Value} {h : Hp}  : ex 126 302 ls (st) h = gI (ldI ls 1) 126 303 ls st h := x_iload_n hc_126 dX8_lives_302 rfl rfl
theorem x_126_303 {ls st : List Value} {h : Hp} {k : Nat} {x : Int32} : ex 126 303 ls (.int x :: .ref k :: st) h = if kd k = 9 ∧ x.toNatClampNeg < ln k ∧ 0 ≤ x then ex 126 304 ls (.int (h k x.toNatClampNeg) :: st) h else none := x_iald hc_126 dX8_lives_303 rfl
theorem x_126_304 {ls st : List Value} {h : Hp}  : ex 126 304 ls (st) h = ex 126 305 ls (.int (-1) :: st) h := x_iconst hc_126 dX8_lives_304 rfl (by decide)
theorem x_126_305 {ls st : List Value} {h : Hp} {x z : Int32} : ex 126 305 ls (.int z :: .int x :: st) h = if x = z then ex 126 308 ls st h else ex 126 310 ls st h := x_icmp_ne hc_126 dX8_lives_305 rfl (by decide)
theorem x_126_308 {ls st : List Value} {h : Hp}  : ex 126 308 ls (st) h = ex 126 309 ls (.int (0) :: st) h := x_iconst hc_126 dX8_lives_308 rfl (by decide)
theorem x_126_309 {ls : List Value} {h : Hp} {v : Int32} : ex 126 309 ls [.int v] h = if v = 0 ∨ v = 1 then some (some (.int v), h) else none := x_zret hc_126 dX8_lives_309 rfl
theorem x_126_310 {ls st : List Value} {h : Hp}  : ex 126 310 ls (st) h = gA (ldA ls 0) 126 311 ls st h := x_aload_n hc_126 dX8_lives_310 rfl rfl
theorem x_126_311 {ls st : List Value} {h : Hp} {k : Nat} : ex 126 311 ls (.ref k :: st) h = if kd k = 8 then ex 126 314 ls (vl h k 22 :: st) h else none := x_getf hc_126 dX8_lives_311 rfl fr_8_53
theorem x_126_314 {ls st : List Value} {h : Hp}  : ex 126 314 ls (st) h = gI (ldI ls 1) 126 315 ls st h := x_iload_n hc_126 dX8_lives_314 rfl rfl
theorem x_126_315 {ls st : List Value} {h : Hp} {k : Nat} {x : Int32} : ex 126 315 ls (.int x :: .ref k :: st) h = if kd k = 9 ∧ x.toNatClampNeg < ln k ∧ 0 ≤ x then ex 126 316 ls (.int (h k x.toNatClampNeg) :: st) h else none := x_iald hc_126 dX8_lives_315 rfl
theorem x_126_316 {ls st : List Value} {h : Hp} {x : Int32} : ex 126 316 ls (.int x :: st) h = if x = 0 then ex 126 319 ls st h else ex 126 423 ls st h := x_if_ne hc_126 dX8_lives_316 rfl (by decide)
theorem x_126_319 {ls st : List Value} {h : Hp}  : ex 126 319 ls (st) h = gA (ldA ls 0) 126 320 ls st h := x_aload_n hc_126 dX8_lives_319 rfl rfl
theorem x_126_320 {ls st : List Value} {h : Hp} {k : Nat} : ex 126 320 ls (.ref k :: st) h = if kd k = 8 then ex 126 323 ls (vl h k 24 :: st) h else none := x_getf hc_126 dX8_lives_320 rfl fr_8_59
theorem x_126_323 {ls st : List Value} {h : Hp}  : ex 126 323 ls (st) h = gI (ldI ls 1) 126 324 ls st h := x_iload_n hc_126 dX8_lives_323 rfl rfl
theorem x_126_324 {ls st : List Value} {h : Hp} {k : Nat} {x : Int32} : ex 126 324 ls (.int x :: .ref k :: st) h = if kd k = 9 ∧ x.toNatClampNeg < ln k ∧ 0 ≤ x then ex 126 325 ls (.int (h k x.toNatClampNeg) :: st) h else none := x_iald hc_126 dX8_lives_324 rfl
theorem x_126_325 {ls st : List Value} {h : Hp} {x : Int32} : ex 126 325 ls (.int x :: st) h = if 0 < x then ex 126 328 ls st h else ex 126 340 ls st h := x_if_le hc_126 dX8_lives_325 rfl (by decide)
theorem x_126_328 {ls st : List Value} {h : Hp}  : ex 126 328 ls (st) h = gA (ldA ls 0) 126 329 ls st h := x_aload_n hc_126 dX8_lives_328 rfl rfl
theorem x_126_329 {ls st : List Value} {h : Hp} {k : Nat} : ex 126 329 ls (.ref k :: st) h = if kd k = 8 then ex 126 332 ls (vl h k 24 :: st) h else none := x_getf hc_126 dX8_lives_329 rfl fr_8_59
theorem x_126_332 {ls st : List Value} {h : Hp}  : ex 126 332 ls (st) h = gI (ldI ls 1) 126 333 ls st h := x_iload_n hc_126 dX8_lives_332 rfl rfl
theorem x_126_333ii {ls st : List Value} {h : Hp} {u : Int32} {v : Int32} : ex 126 333 ls (.int u :: .int v :: st) h = ex 126 334 ls (.int u :: .int v :: .int u :: .int v :: st) h := x_dup2_ii hc_126 dX8_lives_333 rfl
theorem x_126_333ia {ls st : List Value} {h : Hp} {u : Int32} {v : Nat} : ex 126 333 ls (.int u :: .ref v :: st) h = ex 126 334 ls (.int u :: .ref v :: .int u :: .ref v :: st) h := x_dup2_ia hc_126 dX8_lives_333 rfl
theorem x_126_333ai {ls st : List Value} {h : Hp} {u : Nat} {v : Int32} : ex 126 333 ls (.ref u :: .int v :: st) h = ex 126 334 ls (.ref u :: .int v :: .ref u :: .int v :: st) h := x_dup2_ai hc_126 dX8_lives_333 rfl
theorem x_126_333aa {ls st : List Value} {h : Hp} {u : Nat} {v : Nat} : ex 126 333 ls (.ref u :: .ref v :: st) h = ex 126 334 ls (.ref u :: .ref v :: .ref u :: .ref v :: st) h := x_dup2_aa hc_126 dX8_lives_333 rfl
theorem x_126_334 {ls st : List Value} {h : Hp} {k : Nat} {x : Int32} : ex 126 334 ls (.int x :: .ref k :: st) h = if kd k = 9 ∧ x.toNatClampNeg < ln k ∧ 0 ≤ x then ex 126 335 ls (.int (h k x.toNatClampNeg) :: st) h else none := x_iald hc_126 dX8_lives_334 rfl
theorem x_126_335 {ls st : List Value} {h : Hp}  : ex 126 335 ls (st) h = ex 126 336 ls (.int (1) :: st) h := x_iconst hc_126 dX8_lives_335 rfl (by decide)
theorem x_126_336 {ls st : List Value} {h : Hp} {a b : Int32} : ex 126 336 ls (.int b :: .int a :: st) h = ex 126 337 ls (.int (a - b) :: st) h := x_isub hc_126 dX8_lives_336 rfl
theorem x_126_337 {ls st : List Value} {h : Hp} {k : Nat} {x u : Int32} : ex 126 337 ls (.int u :: .int x :: .ref k :: st) h = if kd k = 9 ∧ x.toNatClampNeg < ln k ∧ 0 ≤ x then ex 126 338 ls st (hu h k x.toNatClampNeg u) else none := x_iast hc_126 dX8_lives_337 rfl
theorem x_126_338 {ls st : List Value} {h : Hp}  : ex 126 338 ls (st) h = ex 126 339 ls (.int (0) :: st) h := x_iconst hc_126 dX8_lives_338 rfl (by decide)
theorem x_126_339 {ls : List Value} {h : Hp} {v : Int32} : ex 126 339 ls [.int v] h = if v = 0 ∨ v = 1 then some (some (.int v), h) else none := x_zret hc_126 dX8_lives_339 rfl
theorem x_126_340 {ls st : List Value} {h : Hp}  : ex 126 340 ls (st) h = gA (ldA ls 0) 126 341 ls st h := x_aload_n hc_126 dX8_lives_340 rfl rfl
theorem x_126_341 {ls st : List Value} {h : Hp} {k : Nat} : ex 126 341 ls (.ref k :: st) h = if kd k = 8 then ex 126 344 ls (vl h k 21 :: st) h else none := x_getf hc_126 dX8_lives_341 rfl fr_8_50
theorem x_126_344 {ls st : List Value} {h : Hp}  : ex 126 344 ls (st) h = gI (ldI ls 1) 126 345 ls st h := x_iload_n hc_126 dX8_lives_344 rfl rfl
theorem x_126_345 {ls st : List Value} {h : Hp}  : ex 126 345 ls (st) h = gA (ldA ls 0) 126 346 ls st h := x_aload_n hc_126 dX8_lives_345 rfl rfl
theorem x_126_346 {ls st : List Value} {h : Hp} {k : Nat} : ex 126 346 ls (.ref k :: st) h = if kd k = 8 then ex 126 349 ls (vl h k 23 :: st) h else none := x_getf hc_126 dX8_lives_346 rfl fr_8_56
theorem x_126_349 {ls st : List Value} {h : Hp}  : ex 126 349 ls (st) h = gI (ldI ls 1) 126 350 ls st h := x_iload_n hc_126 dX8_lives_349 rfl rfl
theorem x_126_350 {ls st : List Value} {h : Hp} {k : Nat} {x : Int32} : ex 126 350 ls (.int x :: .ref k :: st) h = if kd k = 9 ∧ x.toNatClampNeg < ln k ∧ 0 ≤ x then ex 126 351 ls (.int (h k x.toNatClampNeg) :: st) h else none := x_iald hc_126 dX8_lives_350 rfl
theorem x_126_351 {ls st : List Value} {h : Hp}  : ex 126 351 ls (st) h = gA (ldA ls 0) 126 352 ls st h := x_aload_n hc_126 dX8_lives_351 rfl rfl
theorem x_126_352 {ls st : List Value} {h : Hp} {k : Nat} : ex 126 352 ls (.ref k :: st) h = if kd k = 8 then ex 126 355 ls (vl h k 20 :: st) h else none := x_getf hc_126 dX8_lives_352 rfl fr_8_47
theorem x_126_355 {ls st : List Value} {h : Hp}  : ex 126 355 ls (st) h = gI (ldI ls 1) 126 356 ls st h := x_iload_n hc_126 dX8_lives_355 rfl rfl
theorem x_126_356 {ls st : List Value} {h : Hp} {k : Nat} {x : Int32} : ex 126 356 ls (.int x :: .ref k :: st) h = if kd k = 9 ∧ x.toNatClampNeg < ln k ∧ 0 ≤ x then ex 126 357 ls (.int (h k x.toNatClampNeg) :: st) h else none := x_iald hc_126 dX8_lives_356 rfl
theorem x_126_357 {ls st : List Value} {h : Hp} {x z : Int32} : ex 126 357 ls (.int z :: .int x :: st) h = if z < x then ex 126 360 ls st h else ex 126 371 ls st h := x_icmp_le hc_126 dX8_lives_357 rfl (by decide)
theorem x_126_360 {ls st : List Value} {h : Hp}  : ex 126 360 ls (st) h = gA (ldA ls 0) 126 361 ls st h := x_aload_n hc_126 dX8_lives_360 rfl rfl
theorem x_126_361 {ls st : List Value} {h : Hp} {k : Nat} : ex 126 361 ls (.ref k :: st) h = if kd k = 8 then ex 126 364 ls (vl h k 20 :: st) h else none := x_getf hc_126 dX8_lives_361 rfl fr_8_47
theorem x_126_364 {ls st : List Value} {h : Hp}  : ex 126 364 ls (st) h = gI (ldI ls 1) 126 365 ls st h := x_iload_n hc_126 dX8_lives_364 rfl rfl
theorem x_126_365 {ls st : List Value} {h : Hp} {k : Nat} {x : Int32} : ex 126 365 ls (.int x :: .ref k :: st) h = if kd k = 9 ∧ x.toNatClampNeg < ln k ∧ 0 ≤ x then ex 126 366 ls (.int (h k x.toNatClampNeg) :: st) h else none := x_iald hc_126 dX8_lives_365 rfl
theorem x_126_366 {ls st : List Value} {h : Hp}  : ex 126 366 ls (st) h = ex 126 367 ls (.int (1) :: st) h := x_iconst hc_126 dX8_lives_366 rfl (by decide)
theorem x_126_367 {ls st : List Value} {h : Hp} {a b : Int32} : ex 126 367 ls (.int b :: .int a :: st) h = ex 126 368 ls (.int (a + b) :: st) h := x_iadd hc_126 dX8_lives_367 rfl
theorem x_126_368 {ls st : List Value} {h : Hp}  : ex 126 368 ls (st) h = ex 126 379 ls st h := x_goto hc_126 dX8_lives_368 (by decide)
theorem x_126_371 {ls st : List Value} {h : Hp}  : ex 126 371 ls (st) h = gA (ldA ls 0) 126 372 ls st h := x_aload_n hc_126 dX8_lives_371 rfl rfl
theorem x_126_372 {ls st : List Value} {h : Hp} {k : Nat} : ex 126 372 ls (.ref k :: st) h = if kd k = 8 then ex 126 375 ls (vl h k 20 :: st) h else none := x_getf hc_126 dX8_lives_372 rfl fr_8_47
theorem x_126_375 {ls st : List Value} {h : Hp}  : ex 126 375 ls (st) h = gI (ldI ls 1) 126 376 ls st h := x_iload_n hc_126 dX8_lives_375 rfl rfl
theorem x_126_376 {ls st : List Value} {h : Hp} {k : Nat} {x : Int32} : ex 126 376 ls (.int x :: .ref k :: st) h = if kd k = 9 ∧ x.toNatClampNeg < ln k ∧ 0 ≤ x then ex 126 377 ls (.int (h k x.toNatClampNeg) :: st) h else none := x_iald hc_126 dX8_lives_376 rfl
theorem x_126_377 {ls st : List Value} {h : Hp}  : ex 126 377 ls (st) h = ex 126 378 ls (.int (1) :: st) h := x_iconst hc_126 dX8_lives_377 rfl (by decide)
theorem x_126_378 {ls st : List Value} {h : Hp} {a b : Int32} : ex 126 378 ls (.int b :: .int a :: st) h = ex 126 379 ls (.int (a - b) :: st) h := x_isub hc_126 dX8_lives_378 rfl
theorem x_126_379 {ls st : List Value} {h : Hp} {k : Nat} {x u : Int32} : ex 126 379 ls (.int u :: .int x :: .ref k :: st) h = if kd k = 9 ∧ x.toNatClampNeg < ln k ∧ 0 ≤ x then ex 126 380 ls st (hu h k x.toNatClampNeg u) else none := x_iast hc_126 dX8_lives_379 rfl
theorem x_126_380 {ls st : List Value} {h : Hp}  : ex 126 380 ls (st) h = gA (ldA ls 0) 126 381 ls st h := x_aload_n hc_126 dX8_lives_380 rfl rfl
theorem x_126_381 {ls st : List Value} {h : Hp} {k : Nat} : ex 126 381 ls (.ref k :: st) h = if kd k = 8 then ex 126 384 ls (vl h k 22 :: st) h else none := x_getf hc_126 dX8_lives_381 rfl fr_8_53
theorem x_126_384 {ls st : List Value} {h : Hp}  : ex 126 384 ls (st) h = gI (ldI ls 1) 126 385 ls st h := x_iload_n hc_126 dX8_lives_384 rfl rfl
theorem x_126_385 {ls st : List Value} {h : Hp}  : ex 126 385 ls (st) h = gA (ldA ls 0) 126 386 ls st h := x_aload_n hc_126 dX8_lives_385 rfl rfl
theorem x_126_386 {ls st : List Value} {h : Hp} {k : Nat} : ex 126 386 ls (.ref k :: st) h = if kd k = 8 then ex 126 389 ls (vl h k 9 :: st) h else none := x_getf hc_126 dX8_lives_386 rfl fr_8_13
theorem x_126_389 {ls st : List Value} {h : Hp}  : ex 126 389 ls (st) h = gA (ldA ls 0) 126 390 ls st h := x_aload_n hc_126 dX8_lives_389 rfl rfl
theorem x_126_390 {ls st : List Value} {h : Hp} {k : Nat} : ex 126 390 ls (.ref k :: st) h = if kd k = 8 then ex 126 393 ls (vl h k 21 :: st) h else none := x_getf hc_126 dX8_lives_390 rfl fr_8_50
theorem x_126_393 {ls st : List Value} {h : Hp}  : ex 126 393 ls (st) h = gI (ldI ls 1) 126 394 ls st h := x_iload_n hc_126 dX8_lives_393 rfl rfl
theorem x_126_394 {ls st : List Value} {h : Hp} {k : Nat} {x : Int32} : ex 126 394 ls (.int x :: .ref k :: st) h = if kd k = 9 ∧ x.toNatClampNeg < ln k ∧ 0 ≤ x then ex 126 395 ls (.int (h k x.toNatClampNeg) :: st) h else none := x_iald hc_126 dX8_lives_394 rfl
theorem x_126_395 {ls st : List Value} {h : Hp}  : ex 126 395 ls (st) h = gA (ldA ls 0) 126 396 ls st h := x_aload_n hc_126 dX8_lives_395 rfl rfl
theorem x_126_396 {ls st : List Value} {h : Hp} {k : Nat} : ex 126 396 ls (.ref k :: st) h = if kd k = 8 then ex 126 399 ls (vl h k 20 :: st) h else none := x_getf hc_126 dX8_lives_396 rfl fr_8_47
theorem x_126_399 {ls st : List Value} {h : Hp}  : ex 126 399 ls (st) h = gI (ldI ls 1) 126 400 ls st h := x_iload_n hc_126 dX8_lives_399 rfl rfl
theorem x_126_400 {ls st : List Value} {h : Hp} {k : Nat} {x : Int32} : ex 126 400 ls (.int x :: .ref k :: st) h = if kd k = 9 ∧ x.toNatClampNeg < ln k ∧ 0 ≤ x then ex 126 401 ls (.int (h k x.toNatClampNeg) :: st) h else none := x_iald hc_126 dX8_lives_400 rfl
theorem x_126_401 {ls st : List Value} {h : Hp} {x z : Int32} : ex 126 401 ls (.int z :: .int x :: st) h = if x < z then ex 126 404 ls st h else ex 126 413 ls st h := x_icmp_ge hc_126 dX8_lives_401 rfl (by decide)
theorem x_126_404 {ls st : List Value} {h : Hp}  : ex 126 404 ls (st) h = gA (ldA ls 0) 126 405 ls st h := x_aload_n hc_126 dX8_lives_404 rfl rfl
theorem x_126_405 {ls st : List Value} {h : Hp} {k : Nat} : ex 126 405 ls (.ref k :: st) h = if kd k = 8 then ex 126 408 ls (vl h k 21 :: st) h else none := x_getf hc_126 dX8_lives_405 rfl fr_8_50
theorem x_126_408 {ls st : List Value} {h : Hp}  : ex 126 408 ls (st) h = gI (ldI ls 1) 126 409 ls st h := x_iload_n hc_126 dX8_lives_408 rfl rfl
theorem x_126_409 {ls st : List Value} {h : Hp} {k : Nat} {x : Int32} : ex 126 409 ls (.int x :: .ref k :: st) h = if kd k = 9 ∧ x.toNatClampNeg < ln k ∧ 0 ≤ x then ex 126 410 ls (.int (h k x.toNatClampNeg) :: st) h else none := x_iald hc_126 dX8_lives_409 rfl
theorem x_126_410 {ls st : List Value} {h : Hp}  : ex 126 410 ls (st) h = ex 126 419 ls st h := x_goto hc_126 dX8_lives_410 (by decide)
theorem x_126_413 {ls st : List Value} {h : Hp}  : ex 126 413 ls (st) h = gA (ldA ls 0) 126 414 ls st h := x_aload_n hc_126 dX8_lives_413 rfl rfl
theorem x_126_414 {ls st : List Value} {h : Hp} {k : Nat} : ex 126 414 ls (.ref k :: st) h = if kd k = 8 then ex 126 417 ls (vl h k 20 :: st) h else none := x_getf hc_126 dX8_lives_414 rfl fr_8_47
theorem x_126_417 {ls st : List Value} {h : Hp}  : ex 126 417 ls (st) h = gI (ldI ls 1) 126 418 ls st h := x_iload_n hc_126 dX8_lives_417 rfl rfl
theorem x_126_418 {ls st : List Value} {h : Hp} {k : Nat} {x : Int32} : ex 126 418 ls (.int x :: .ref k :: st) h = if kd k = 9 ∧ x.toNatClampNeg < ln k ∧ 0 ≤ x then ex 126 419 ls (.int (h k x.toNatClampNeg) :: st) h else none := x_iald hc_126 dX8_lives_418 rfl
theorem x_126_419 {ls st : List Value} {h : Hp} {k : Nat} {x : Int32} : ex 126 419 ls (.int x :: .ref k :: st) h = if kd k = 9 ∧ x.toNatClampNeg < ln k ∧ 0 ≤ x then ex 126 420 ls (.int (h k x.toNatClampNeg) :: st) h else none := x_iald hc_126 dX8_lives_419 rfl
theorem x_126_420 {ls st : List Value} {h : Hp} {k : Nat} {x u : Int32} : ex 126 420 ls (.int u :: .int x :: .ref k :: st) h = if kd k = 9 ∧ x.toNatClampNeg < ln k ∧ 0 ≤ x then ex 126 421 ls st (hu h k x.toNatClampNeg u) else none := x_iast hc_126 dX8_lives_420 rfl
theorem x_126_421 {ls st : List Value} {h : Hp}  : ex 126 421 ls (st) h = ex 126 422 ls (.int (0) :: st) h := x_iconst hc_126 dX8_lives_421 rfl (by decide)
theorem x_126_422 {ls : List Value} {h : Hp} {v : Int32} : ex 126 422 ls [.int v] h = if v = 0 ∨ v = 1 then some (some (.int v), h) else none := x_zret hc_126 dX8_lives_422 rfl
theorem x_126_423 {ls st : List Value} {h : Hp}  : ex 126 423 ls (st) h = gA (ldA ls 0) 126 424 ls st h := x_aload_n hc_126 dX8_lives_423 rfl rfl
theorem x_126_424 {ls st : List Value} {h : Hp} {k : Nat} : ex 126 424 ls (.ref k :: st) h = if kd k = 8 then ex 126 427 ls (vl h k 22 :: st) h else none := x_getf hc_126 dX8_lives_424 rfl fr_8_53
theorem x_126_427 {ls st : List Value} {h : Hp}  : ex 126 427 ls (st) h = gI (ldI ls 1) 126 428 ls st h := x_iload_n hc_126 dX8_lives_427 rfl rfl
theorem x_126_428ii {ls st : List Value} {h : Hp} {u : Int32} {v : Int32} : ex 126 428 ls (.int u :: .int v :: st) h = ex 126 429 ls (.int u :: .int v :: .int u :: .int v :: st) h := x_dup2_ii hc_126 dX8_lives_428 rfl
theorem x_126_428ia {ls st : List Value} {h : Hp} {u : Int32} {v : Nat} : ex 126 428 ls (.int u :: .ref v :: st) h = ex 126 429 ls (.int u :: .ref v :: .int u :: .ref v :: st) h := x_dup2_ia hc_126 dX8_lives_428 rfl
theorem x_126_428ai {ls st : List Value} {h : Hp} {u : Nat} {v : Int32} : ex 126 428 ls (.ref u :: .int v :: st) h = ex 126 429 ls (.ref u :: .int v :: .ref u :: .int v :: st) h := x_dup2_ai hc_126 dX8_lives_428 rfl
theorem x_126_428aa {ls st : List Value} {h : Hp} {u : Nat} {v : Nat} : ex 126 428 ls (.ref u :: .ref v :: st) h = ex 126 429 ls (.ref u :: .ref v :: .ref u :: .ref v :: st) h := x_dup2_aa hc_126 dX8_lives_428 rfl
theorem x_126_429 {ls st : List Value} {h : Hp} {k : Nat} {x : Int32} : ex 126 429 ls (.int x :: .ref k :: st) h = if kd k = 9 ∧ x.toNatClampNeg < ln k ∧ 0 ≤ x then ex 126 430 ls (.int (h k x.toNatClampNeg) :: st) h else none := x_iald hc_126 dX8_lives_429 rfl
theorem x_126_430 {ls st : List Value} {h : Hp}  : ex 126 430 ls (st) h = ex 126 431 ls (.int (1) :: st) h := x_iconst hc_126 dX8_lives_430 rfl (by decide)
theorem x_126_431 {ls st : List Value} {h : Hp} {a b : Int32} : ex 126 431 ls (.int b :: .int a :: st) h = ex 126 432 ls (.int (a - b) :: st) h := x_isub hc_126 dX8_lives_431 rfl
theorem x_126_432 {ls st : List Value} {h : Hp} {k : Nat} {x u : Int32} : ex 126 432 ls (.int u :: .int x :: .ref k :: st) h = if kd k = 9 ∧ x.toNatClampNeg < ln k ∧ 0 ≤ x then ex 126 433 ls st (hu h k x.toNatClampNeg u) else none := x_iast hc_126 dX8_lives_432 rfl
theorem x_126_433 {ls st : List Value} {h : Hp}  : ex 126 433 ls (st) h = gA (ldA ls 0) 126 434 ls st h := x_aload_n hc_126 dX8_lives_433 rfl rfl
theorem x_126_434 {ls st : List Value} {h : Hp} {k : Nat} : ex 126 434 ls (.ref k :: st) h = if kd k = 8 then ex 126 437 ls (vl h k 22 :: st) h else none := x_getf hc_126 dX8_lives_434 rfl fr_8_53
theorem x_126_437 {ls st : List Value} {h : Hp}  : ex 126 437 ls (st) h = gI (ldI ls 1) 126 438 ls st h := x_iload_n hc_126 dX8_lives_437 rfl rfl
theorem x_126_438 {ls st : List Value} {h : Hp} {k : Nat} {x : Int32} : ex 126 438 ls (.int x :: .ref k :: st) h = if kd k = 9 ∧ x.toNatClampNeg < ln k ∧ 0 ≤ x then ex 126 439 ls (.int (h k x.toNatClampNeg) :: st) h else none := x_iald hc_126 dX8_lives_438 rfl
theorem x_126_439 {ls st : List Value} {h : Hp} {x : Int32} : ex 126 439 ls (.int x :: st) h = if 0 < x then ex 126 442 ls st h else ex 126 444 ls st h := x_if_le hc_126 dX8_lives_439 rfl (by decide)
theorem x_126_442 {ls st : List Value} {h : Hp}  : ex 126 442 ls (st) h = ex 126 443 ls (.int (0) :: st) h := x_iconst hc_126 dX8_lives_442 rfl (by decide)
theorem x_126_443 {ls : List Value} {h : Hp} {v : Int32} : ex 126 443 ls [.int v] h = if v = 0 ∨ v = 1 then some (some (.int v), h) else none := x_zret hc_126 dX8_lives_443 rfl
theorem x_126_444 {ls st : List Value} {h : Hp}  : ex 126 444 ls (st) h = gA (ldA ls 0) 126 445 ls st h := x_aload_n hc_126 dX8_lives_444 rfl rfl
theorem x_126_445 {ls st : List Value} {h : Hp} {k : Nat} : ex 126 445 ls (.ref k :: st) h = if kd k = 8 then ex 126 448 ls (vl h k 20 :: st) h else none := x_getf hc_126 dX8_lives_445 rfl fr_8_47
theorem x_126_448 {ls st : List Value} {h : Hp}  : ex 126 448 ls (st) h = gI (ldI ls 1) 126 449 ls st h := x_iload_n hc_126 dX8_lives_448 rfl rfl
theorem x_126_449 {ls st : List Value} {h : Hp}  : ex 126 449 ls (st) h = gA (ldA ls 0) 126 450 ls st h := x_aload_n hc_126 dX8_lives_449 rfl rfl
theorem x_126_450 {ls st : List Value} {h : Hp} {k : Nat} : ex 126 450 ls (.ref k :: st) h = if kd k = 8 then ex 126 453 ls (vl h k 21 :: st) h else none := x_getf hc_126 dX8_lives_450 rfl fr_8_50
theorem x_126_453 {ls st : List Value} {h : Hp}  : ex 126 453 ls (st) h = gI (ldI ls 1) 126 454 ls st h := x_iload_n hc_126 dX8_lives_453 rfl rfl
theorem x_126_454 {ls st : List Value} {h : Hp} {k : Nat} {x : Int32} : ex 126 454 ls (.int x :: .ref k :: st) h = if kd k = 9 ∧ x.toNatClampNeg < ln k ∧ 0 ≤ x then ex 126 455 ls (.int (h k x.toNatClampNeg) :: st) h else none := x_iald hc_126 dX8_lives_454 rfl
theorem x_126_455 {ls st : List Value} {h : Hp} {k : Nat} {x u : Int32} : ex 126 455 ls (.int u :: .int x :: .ref k :: st) h = if kd k = 9 ∧ x.toNatClampNeg < ln k ∧ 0 ≤ x then ex 126 456 ls st (hu h k x.toNatClampNeg u) else none := x_iast hc_126 dX8_lives_455 rfl
theorem x_126_456 {ls st : List Value} {h : Hp}  : ex 126 456 ls (st) h = gA (ldA ls 0) 126 457 ls st h := x_aload_n hc_126 dX8_lives_456 rfl rfl
theorem x_126_457 {ls st : List Value} {h : Hp} {k : Nat} : ex 126 457 ls (.ref k :: st) h = if kd k = 8 then ex 126 460 ls (vl h k 20 :: st) h else none := x_getf hc_126 dX8_lives_457 rfl fr_8_47
theorem x_126_460 {ls st : List Value} {h : Hp}  : ex 126 460 ls (st) h = gI (ldI ls 1) 126 461 ls st h := x_iload_n hc_126 dX8_lives_460 rfl rfl
theorem x_126_461 {ls st : List Value} {h : Hp} {k : Nat} {x : Int32} : ex 126 461 ls (.int x :: .ref k :: st) h = if kd k = 9 ∧ x.toNatClampNeg < ln k ∧ 0 ≤ x then ex 126 462 ls (.int (h k x.toNatClampNeg) :: st) h else none := x_iald hc_126 dX8_lives_461 rfl
theorem x_126_462 {ls st : List Value} {h : Hp}  : ex 126 462 ls (st) h = gA (ldA ls 0) 126 463 ls st h := x_aload_n hc_126 dX8_lives_462 rfl rfl
theorem x_126_463 {ls st : List Value} {h : Hp} {k : Nat} : ex 126 463 ls (.ref k :: st) h = if kd k = 8 then ex 126 466 ls (vl h k 23 :: st) h else none := x_getf hc_126 dX8_lives_463 rfl fr_8_56
theorem x_126_466 {ls st : List Value} {h : Hp}  : ex 126 466 ls (st) h = gI (ldI ls 1) 126 467 ls st h := x_iload_n hc_126 dX8_lives_466 rfl rfl
theorem x_126_467 {ls st : List Value} {h : Hp} {k : Nat} {x : Int32} : ex 126 467 ls (.int x :: .ref k :: st) h = if kd k = 9 ∧ x.toNatClampNeg < ln k ∧ 0 ≤ x then ex 126 468 ls (.int (h k x.toNatClampNeg) :: st) h else none := x_iald hc_126 dX8_lives_467 rfl
theorem x_126_468 {ls st : List Value} {h : Hp} {x z : Int32} : ex 126 468 ls (.int z :: .int x :: st) h = if x = z then ex 126 471 ls st h else ex 126 487 ls st h := x_icmp_ne hc_126 dX8_lives_468 rfl (by decide)
theorem x_126_471 {ls st : List Value} {h : Hp}  : ex 126 471 ls (st) h = gA (ldA ls 0) 126 472 ls st h := x_aload_n hc_126 dX8_lives_471 rfl rfl
theorem x_126_472 {ls st : List Value} {h : Hp} {k : Nat} : ex 126 472 ls (.ref k :: st) h = if kd k = 8 then ex 126 475 ls (vl h k 23 :: st) h else none := x_getf hc_126 dX8_lives_472 rfl fr_8_56
theorem x_126_475 {ls st : List Value} {h : Hp}  : ex 126 475 ls (st) h = gI (ldI ls 1) 126 476 ls st h := x_iload_n hc_126 dX8_lives_475 rfl rfl
theorem x_126_476 {ls st : List Value} {h : Hp}  : ex 126 476 ls (st) h = ex 126 477 ls (.int (-1) :: st) h := x_iconst hc_126 dX8_lives_476 rfl (by decide)
theorem x_126_477 {ls st : List Value} {h : Hp} {k : Nat} {x u : Int32} : ex 126 477 ls (.int u :: .int x :: .ref k :: st) h = if kd k = 9 ∧ x.toNatClampNeg < ln k ∧ 0 ≤ x then ex 126 478 ls st (hu h k x.toNatClampNeg u) else none := x_iast hc_126 dX8_lives_477 rfl
theorem x_126_478 {ls st : List Value} {h : Hp}  : ex 126 478 ls (st) h = gA (ldA ls 0) 126 479 ls st h := x_aload_n hc_126 dX8_lives_478 rfl rfl
theorem x_126_479 {ls st : List Value} {h : Hp} {k : Nat} : ex 126 479 ls (.ref k :: st) h = if kd k = 8 then ex 126 482 ls (vl h k 27 :: st) h else none := x_getf hc_126 dX8_lives_479 rfl fr_8_68
theorem x_126_482 {ls st : List Value} {h : Hp}  : ex 126 482 ls (st) h = gI (ldI ls 1) 126 483 ls st h := x_iload_n hc_126 dX8_lives_482 rfl rfl
theorem x_126_483 {ls st : List Value} {h : Hp}  : ex 126 483 ls (st) h = ex 126 484 ls (.int (1) :: st) h := x_iconst hc_126 dX8_lives_483 rfl (by decide)
theorem x_126_484 {ls st : List Value} {h : Hp} {k : Nat} {x u : Int32} : ex 126 484 ls (.int u :: .int x :: .ref k :: st) h = if (kd k = 10 ∧ x.toNatClampNeg < ln k ∧ 0 ≤ x) ∧ (u = 0 ∨ u = 1) then ex 126 485 ls st (hu h k x.toNatClampNeg u) else none := x_zast hc_126 dX8_lives_484 rfl
theorem x_126_485 {ls st : List Value} {h : Hp}  : ex 126 485 ls (st) h = ex 126 486 ls (.int (1) :: st) h := x_iconst hc_126 dX8_lives_485 rfl (by decide)
theorem x_126_486 {ls : List Value} {h : Hp} {v : Int32} : ex 126 486 ls [.int v] h = if v = 0 ∨ v = 1 then some (some (.int v), h) else none := x_zret hc_126 dX8_lives_486 rfl
theorem x_126_487 {ls st : List Value} {h : Hp}  : ex 126 487 ls (st) h = gA (ldA ls 0) 126 488 ls st h := x_aload_n hc_126 dX8_lives_487 rfl rfl
theorem x_126_488 {ls st : List Value} {h : Hp} {k : Nat} : ex 126 488 ls (.ref k :: st) h = if kd k = 8 then ex 126 491 ls (vl h k 24 :: st) h else none := x_getf hc_126 dX8_lives_488 rfl fr_8_59
theorem x_126_491 {ls st : List Value} {h : Hp}  : ex 126 491 ls (st) h = gI (ldI ls 1) 126 492 ls st h := x_iload_n hc_126 dX8_lives_491 rfl rfl
theorem x_126_492 {ls st : List Value} {h : Hp}  : ex 126 492 ls (st) h = gA (ldA ls 0) 126 493 ls st h := x_aload_n hc_126 dX8_lives_492 rfl rfl
theorem x_126_493 {ls st : List Value} {h : Hp} {k : Nat} : ex 126 493 ls (.ref k :: st) h = if kd k = 8 then ex 126 496 ls (vl h k 13 :: st) h else none := x_getf hc_126 dX8_lives_493 rfl fr_8_26
theorem x_126_496 {ls st : List Value} {h : Hp}  : ex 126 496 ls (st) h = gA (ldA ls 0) 126 497 ls st h := x_aload_n hc_126 dX8_lives_496 rfl rfl
theorem x_126_497 {ls st : List Value} {h : Hp} {k : Nat} : ex 126 497 ls (.ref k :: st) h = if kd k = 8 then ex 126 500 ls (vl h k 20 :: st) h else none := x_getf hc_126 dX8_lives_497 rfl fr_8_47
theorem x_126_500 {ls st : List Value} {h : Hp}  : ex 126 500 ls (st) h = gI (ldI ls 1) 126 501 ls st h := x_iload_n hc_126 dX8_lives_500 rfl rfl
theorem x_126_501 {ls st : List Value} {h : Hp} {k : Nat} {x : Int32} : ex 126 501 ls (.int x :: .ref k :: st) h = if kd k = 9 ∧ x.toNatClampNeg < ln k ∧ 0 ≤ x then ex 126 502 ls (.int (h k x.toNatClampNeg) :: st) h else none := x_iald hc_126 dX8_lives_501 rfl
theorem x_126_502 {ls st : List Value} {h : Hp} {k : Nat} {x : Int32} : ex 126 502 ls (.int x :: .ref k :: st) h = if kd k = 9 ∧ x.toNatClampNeg < ln k ∧ 0 ≤ x then ex 126 503 ls (.int (h k x.toNatClampNeg) :: st) h else none := x_iald hc_126 dX8_lives_502 rfl
theorem x_126_503 {ls st : List Value} {h : Hp} {k : Nat} {x u : Int32} : ex 126 503 ls (.int u :: .int x :: .ref k :: st) h = if kd k = 9 ∧ x.toNatClampNeg < ln k ∧ 0 ≤ x then ex 126 504 ls st (hu h k x.toNatClampNeg u) else none := x_iast hc_126 dX8_lives_503 rfl
theorem x_126_504 {ls st : List Value} {h : Hp}  : ex 126 504 ls (st) h = ex 126 505 ls (.int (0) :: st) h := x_iconst hc_126 dX8_lives_504 rfl (by decide)
theorem x_126_505 {ls : List Value} {h : Hp} {v : Int32} : ex 126 505 ls [.int v] h = if v = 0 ∨ v = 1 then some (some (.int v), h) else none := x_zret hc_126 dX8_lives_505 rfl
