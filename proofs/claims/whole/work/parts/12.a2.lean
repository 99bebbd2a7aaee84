theorem x_57_0 {ls st : List Value} {h : Hp}  : ex 57 0 ls (st) h = gI (ldI ls 2) 57 1 ls st h := x_iload_n hc_57 dX7_load_0 rfl rfl
theorem x_57_1 {ls st : List Value} {h : Hp}  : ex 57 1 ls (st) h = ex 57 3 ls (.int (10) :: st) h := x_bipush hc_57 dX7_load_1 rfl (by decide)
theorem x_57_3 {ls st : List Value} {h : Hp} {a b : Int32} : ex 57 3 ls (.int b :: .int a :: st) h = if b = 0 then none else ex 57 4 ls (.int (a / b) :: st) h := x_idiv hc_57 dX7_load_3 rfl
theorem x_57_4 {ls st : List Value} {h : Hp} {x : Int32} : ex 57 4 ls (.int x :: st) h = ex 57 6 (ls.set 7 (.int x)) st h := x_istore hc_57 dX7_load_4 rfl (by decide)
theorem x_57_6 {ls st : List Value} {h : Hp}  : ex 57 6 ls (st) h = gI (ldI ls 2) 57 7 ls st h := x_iload_n hc_57 dX7_load_6 rfl rfl
theorem x_57_7 {ls st : List Value} {h : Hp}  : ex 57 7 ls (st) h = ex 57 9 ls (.int (10) :: st) h := x_bipush hc_57 dX7_load_7 rfl (by decide)
theorem x_57_9 {ls st : List Value} {h : Hp} {a b : Int32} : ex 57 9 ls (.int b :: .int a :: st) h = if b = 0 then none else ex 57 10 ls (.int (a % b) :: st) h := x_irem hc_57 dX7_load_9 rfl
theorem x_57_10 {ls st : List Value} {h : Hp} {x : Int32} : ex 57 10 ls (.int x :: st) h = ex 57 12 (ls.set 8 (.int x)) st h := x_istore hc_57 dX7_load_10 rfl (by decide)
theorem x_57_12 {ls st : List Value} {h : Hp}  : ex 57 12 ls (st) h = gA (ldA ls 0) 57 13 ls st h := x_aload_n hc_57 dX7_load_12 rfl rfl
theorem x_57_13 {ls st : List Value} {h : Hp}  : ex 57 13 ls (st) h = gI (ldI ls 1) 57 14 ls st h := x_iload_n hc_57 dX7_load_13 rfl rfl
theorem x_57_14 {ls st : List Value} {h : Hp} {k : Nat} {a0 : Int32} : ex 57 14 ls (.int a0 :: .ref k :: st) h = if kd k = 7 ∧ st.length ≤ 4 then gC (ex 58 0 [.ref k, .int a0] [] h) 57 17 ls st else none := x_callV (as := [.int a0]) hc_57 dX7_load_14 rfl mr_7_148 rfl rfl rfl (by decide) (by decide)
theorem x_57_17 {ls st : List Value} {h : Hp} {x : Int32} : ex 57 17 ls (.int x :: st) h = if x = 0 then ex 57 30 ls st h else ex 57 20 ls st h := x_if_eq hc_57 dX7_load_17 rfl (by decide)
theorem x_57_20 {ls st : List Value} {h : Hp}  : ex 57 20 ls (st) h = gI (ldI ls 2) 57 21 ls st h := x_iload_n hc_57 dX7_load_20 rfl rfl
theorem x_57_21 {ls st : List Value} {h : Hp} {x : Int32} : ex 57 21 ls (.int x :: st) h = if x < 0 then ex 57 30 ls st h else ex 57 24 ls st h := x_if_lt hc_57 dX7_load_21 rfl (by decide)
theorem x_57_24 {ls st : List Value} {h : Hp}  : ex 57 24 ls (st) h = gI (ldI ls 8) 57 26 ls st h := x_iload hc_57 dX7_load_24 rfl
theorem x_57_26 {ls st : List Value} {h : Hp}  : ex 57 26 ls (st) h = ex 57 27 ls (.int (4) :: st) h := x_iconst hc_57 dX7_load_26 rfl (by decide)
theorem x_57_27 {ls st : List Value} {h : Hp} {x z : Int32} : ex 57 27 ls (.int z :: .int x :: st) h = if x < z then ex 57 37 ls st h else ex 57 30 ls st h := x_icmp_lt hc_57 dX7_load_27 rfl (by decide)
theorem x_57_30 {ls st : List Value} {h : Hp}  : ex 57 30 ls (st) h = gA (ldA ls 0) 57 31 ls st h := x_aload_n hc_57 dX7_load_30 rfl rfl
theorem x_57_31 {ls st : List Value} {h : Hp}  : ex 57 31 ls (st) h = ex 57 33 ls (.int (-3) :: st) h := x_bipush hc_57 dX7_load_31 rfl (by decide)
theorem x_57_33 {ls st : List Value} {h : Hp} {k : Nat} {a0 : Int32} : ex 57 33 ls (.int a0 :: .ref k :: st) h = if kd k = 7 ∧ st.length ≤ 4 then gC (ex 45 0 [.ref k, .int a0] [] h) 57 36 ls st else none := x_callV (as := [.int a0]) hc_57 dX7_load_33 rfl mr_7_104 rfl rfl rfl (by decide) (by decide)
theorem x_57_36 {ls : List Value} {h : Hp} {v : Int32} : ex 57 36 ls [.int v] h = some (some (.int v), h) := x_iret hc_57 dX7_load_36 rfl
theorem x_57_37 {ls st : List Value} {h : Hp}  : ex 57 37 ls (st) h = gI (ldI ls 7) 57 39 ls st h := x_iload hc_57 dX7_load_37 rfl
theorem x_57_39 {ls st : List Value} {h : Hp}  : ex 57 39 ls (st) h = ex 57 40 ls (.int (4) :: st) h := x_iconst hc_57 dX7_load_39 rfl (by decide)
theorem x_57_40 {ls st : List Value} {h : Hp} {x z : Int32} : ex 57 40 ls (.int z :: .int x :: st) h = if z < x then ex 57 66 ls st h else ex 57 43 ls st h := x_icmp_gt hc_57 dX7_load_40 rfl (by decide)
theorem x_57_43 {ls st : List Value} {h : Hp}  : ex 57 43 ls (st) h = gI (ldI ls 3) 57 44 ls st h := x_iload_n hc_57 dX7_load_43 rfl rfl
theorem x_57_44 {ls st : List Value} {h : Hp}  : ex 57 44 ls (st) h = ex 57 45 ls (.int (1) :: st) h := x_iconst hc_57 dX7_load_44 rfl (by decide)
theorem x_57_45 {ls st : List Value} {h : Hp}  : ex 57 45 ls (st) h = ex 57 48 ls (.int (500) :: st) h := x_sipush hc_57 dX7_load_45 rfl (by decide)
theorem x_57_48 {ls st : List Value} {h : Hp} {a0 : Int32} {a1 : Int32} {a2 : Int32} : ex 57 48 ls (.int a2 :: .int a1 :: .int a0 :: st) h = if st.length ≤ 4 then gC (ex 44 0 [.int a0, .int a1, .int a2] [] h) 57 51 ls st else none := x_callS (as := [.int a0, .int a1, .int a2]) hc_57 dX7_load_48 rfl mr_7_100 rfl rfl rfl (by decide)
theorem x_57_51 {ls st : List Value} {h : Hp} {x : Int32} : ex 57 51 ls (.int x :: st) h = if x = 0 then ex 57 66 ls st h else ex 57 54 ls st h := x_if_eq hc_57 dX7_load_51 rfl (by decide)
theorem x_57_54 {ls st : List Value} {h : Hp}  : ex 57 54 ls (st) h = gI (ldI ls 4) 57 56 ls st h := x_iload hc_57 dX7_load_54 rfl
theorem x_57_56 {ls st : List Value} {h : Hp}  : ex 57 56 ls (st) h = ex 57 57 ls (.int (1) :: st) h := x_iconst hc_57 dX7_load_56 rfl (by decide)
theorem x_57_57 {ls st : List Value} {h : Hp}  : ex 57 57 ls (st) h = ex 57 60 ls (.int (10000) :: st) h := x_sipush hc_57 dX7_load_57 rfl (by decide)
theorem x_57_60 {ls st : List Value} {h : Hp} {a0 : Int32} {a1 : Int32} {a2 : Int32} : ex 57 60 ls (.int a2 :: .int a1 :: .int a0 :: st) h = if st.length ≤ 4 then gC (ex 44 0 [.int a0, .int a1, .int a2] [] h) 57 63 ls st else none := x_callS (as := [.int a0, .int a1, .int a2]) hc_57 dX7_load_60 rfl mr_7_100 rfl rfl rfl (by decide)
theorem x_57_63 {ls st : List Value} {h : Hp} {x : Int32} : ex 57 63 ls (.int x :: st) h = if x = 0 then ex 57 66 ls st h else ex 57 73 ls st h := x_if_ne hc_57 dX7_load_63 rfl (by decide)
theorem x_57_66 {ls st : List Value} {h : Hp}  : ex 57 66 ls (st) h = gA (ldA ls 0) 57 67 ls st h := x_aload_n hc_57 dX7_load_66 rfl rfl
theorem x_57_67 {ls st : List Value} {h : Hp}  : ex 57 67 ls (st) h = ex 57 69 ls (.int (-7) :: st) h := x_bipush hc_57 dX7_load_67 rfl (by decide)
theorem x_57_69 {ls st : List Value} {h : Hp} {k : Nat} {a0 : Int32} : ex 57 69 ls (.int a0 :: .ref k :: st) h = if kd k = 7 ∧ st.length ≤ 4 then gC (ex 45 0 [.ref k, .int a0] [] h) 57 72 ls st else none := x_callV (as := [.int a0]) hc_57 dX7_load_69 rfl mr_7_104 rfl rfl rfl (by decide) (by decide)
theorem x_57_72 {ls : List Value} {h : Hp} {v : Int32} : ex 57 72 ls [.int v] h = some (some (.int v), h) := x_iret hc_57 dX7_load_72 rfl
theorem x_57_73 {ls st : List Value} {h : Hp}  : ex 57 73 ls (st) h = gI (ldI ls 7) 57 75 ls st h := x_iload hc_57 dX7_load_73 rfl
theorem x_57_75 {ls st : List Value} {h : Hp}  : ex 57 75 ls (st) h = ex 57 76 ls (.int (2) :: st) h := x_iconst hc_57 dX7_load_75 rfl (by decide)
theorem x_57_76 {ls st : List Value} {h : Hp} {x z : Int32} : ex 57 76 ls (.int z :: .int x :: st) h = if x = z then ex 57 79 ls st h else ex 57 90 ls st h := x_icmp_ne hc_57 dX7_load_76 rfl (by decide)
theorem x_57_79 {ls st : List Value} {h : Hp}  : ex 57 79 ls (st) h = gI (ldI ls 5) 57 81 ls st h := x_iload hc_57 dX7_load_79 rfl
theorem x_57_81 {ls st : List Value} {h : Hp}  : ex 57 81 ls (st) h = ex 57 82 ls (.int (1) :: st) h := x_iconst hc_57 dX7_load_81 rfl (by decide)
theorem x_57_82 {ls st : List Value} {h : Hp}  : ex 57 82 ls (st) h = ex 57 84 ls (.int (99) :: st) h := x_bipush hc_57 dX7_load_82 rfl (by decide)
theorem x_57_84 {ls st : List Value} {h : Hp} {a0 : Int32} {a1 : Int32} {a2 : Int32} : ex 57 84 ls (.int a2 :: .int a1 :: .int a0 :: st) h = if st.length ≤ 4 then gC (ex 44 0 [.int a0, .int a1, .int a2] [] h) 57 87 ls st else none := x_callS (as := [.int a0, .int a1, .int a2]) hc_57 dX7_load_84 rfl mr_7_100 rfl rfl rfl (by decide)
theorem x_57_87 {ls st : List Value} {h : Hp} {x : Int32} : ex 57 87 ls (.int x :: st) h = if x = 0 then ex 57 98 ls st h else ex 57 90 ls st h := x_if_eq hc_57 dX7_load_87 rfl (by decide)
theorem x_57_90 {ls st : List Value} {h : Hp}  : ex 57 90 ls (st) h = gI (ldI ls 6) 57 92 ls st h := x_iload hc_57 dX7_load_90 rfl
theorem x_57_92 {ls st : List Value} {h : Hp} {a0 : Int32} : ex 57 92 ls (.int a0 :: st) h = if st.length ≤ 4 then gC (ex 52 0 [.int a0] [] h) 57 95 ls st else none := x_callS (as := [.int a0]) hc_57 dX7_load_92 rfl mr_7_125 rfl rfl rfl (by decide)
theorem x_57_95 {ls st : List Value} {h : Hp} {x : Int32} : ex 57 95 ls (.int x :: st) h = if x = 0 then ex 57 98 ls st h else ex 57 105 ls st h := x_if_ne hc_57 dX7_load_95 rfl (by decide)
theorem x_57_98 {ls st : List Value} {h : Hp}  : ex 57 98 ls (st) h = gA (ldA ls 0) 57 99 ls st h := x_aload_n hc_57 dX7_load_98 rfl rfl
theorem x_57_99 {ls st : List Value} {h : Hp}  : ex 57 99 ls (st) h = ex 57 101 ls (.int (-7) :: st) h := x_bipush hc_57 dX7_load_99 rfl (by decide)
theorem x_57_101 {ls st : List Value} {h : Hp} {k : Nat} {a0 : Int32} : ex 57 101 ls (.int a0 :: .ref k :: st) h = if kd k = 7 ∧ st.length ≤ 4 then gC (ex 45 0 [.ref k, .int a0] [] h) 57 104 ls st else none := x_callV (as := [.int a0]) hc_57 dX7_load_101 rfl mr_7_104 rfl rfl rfl (by decide) (by decide)
theorem x_57_104 {ls : List Value} {h : Hp} {v : Int32} : ex 57 104 ls [.int v] h = some (some (.int v), h) := x_iret hc_57 dX7_load_104 rfl
theorem x_57_105 {ls st : List Value} {h : Hp}  : ex 57 105 ls (st) h = gA (ldA ls 0) 57 106 ls st h := x_aload_n hc_57 dX7_load_105 rfl rfl
theorem x_57_106 {ls st : List Value} {h : Hp} {k : Nat} : ex 57 106 ls (.ref k :: st) h = if kd k = 7 then ex 57 109 ls (vl h k 1 :: st) h else none := x_getf hc_57 dX7_load_106 rfl fr_7_17
theorem x_57_109 {ls st : List Value} {h : Hp}  : ex 57 109 ls (st) h = gI (ldI ls 1) 57 110 ls st h := x_iload_n hc_57 dX7_load_109 rfl rfl
theorem x_57_110 {ls st : List Value} {h : Hp} {k : Nat} {x : Int32} : ex 57 110 ls (.int x :: .ref k :: st) h = if (11 ≤ kd k ∧ kd k ≤ 14) ∧ x.toNatClampNeg < ln k ∧ 0 ≤ x then gA (rf k x.toNatClampNeg) 57 111 ls st h else none := x_aald hc_57 dX7_load_110 rfl
theorem x_57_111 {ls st : List Value} {h : Hp} {k : Nat} : ex 57 111 ls (.ref k :: st) h = if kd k = 0 then ex 57 114 ls (vl h k 0 :: st) h else none := x_getf hc_57 dX7_load_111 rfl fr_7_153
theorem x_57_114 {ls st : List Value} {h : Hp}  : ex 57 114 ls (st) h = gI (ldI ls 8) 57 116 ls st h := x_iload hc_57 dX7_load_114 rfl
theorem x_57_116 {ls st : List Value} {h : Hp} {k : Nat} {x : Int32} : ex 57 116 ls (.int x :: .ref k :: st) h = if (11 ≤ kd k ∧ kd k ≤ 14) ∧ x.toNatClampNeg < ln k ∧ 0 ≤ x then gA (rf k x.toNatClampNeg) 57 117 ls st h else none := x_aald hc_57 dX7_load_116 rfl
theorem x_57_117 {ls st : List Value} {h : Hp} {x : Nat} : ex 57 117 ls (.ref x :: st) h = ex 57 119 (ls.set 9 (.ref x)) st h := x_astore hc_57 dX7_load_117 rfl (by decide)
theorem x_57_119 {ls st : List Value} {h : Hp}  : ex 57 119 ls (st) h = gA (ldA ls 0) 57 120 ls st h := x_aload_n hc_57 dX7_load_119 rfl rfl
theorem x_57_120 {ls st : List Value} {h : Hp} {k : Nat} : ex 57 120 ls (.ref k :: st) h = if kd k = 7 then ex 57 123 ls (vl h k 1 :: st) h else none := x_getf hc_57 dX7_load_120 rfl fr_7_17
theorem x_57_123 {ls st : List Value} {h : Hp}  : ex 57 123 ls (st) h = gI (ldI ls 1) 57 124 ls st h := x_iload_n hc_57 dX7_load_123 rfl rfl
theorem x_57_124 {ls st : List Value} {h : Hp} {k : Nat} {x : Int32} : ex 57 124 ls (.int x :: .ref k :: st) h = if (11 ≤ kd k ∧ kd k ≤ 14) ∧ x.toNatClampNeg < ln k ∧ 0 ≤ x then gA (rf k x.toNatClampNeg) 57 125 ls st h else none := x_aald hc_57 dX7_load_124 rfl
theorem x_57_125 {ls st : List Value} {h : Hp} {k : Nat}  : ex 57 125 ls (.ref k :: st) h = if kd k = 0 ∧ st.length ≤ 4 then gC (ex 1 0 [.ref k] [] h) 57 128 ls st else none := x_callV (as := []) hc_57 dX7_load_125 rfl mr_7_157 rfl rfl rfl (by decide) (by decide)
theorem x_57_128 {ls st : List Value} {h : Hp} {x : Int32} : ex 57 128 ls (.int x :: st) h = if x = 0 then ex 57 131 ls st h else ex 57 139 ls st h := x_if_ne hc_57 dX7_load_128 rfl (by decide)
theorem x_57_131 {ls st : List Value} {h : Hp}  : ex 57 131 ls (st) h = gA (ldA ls 9) 57 133 ls st h := x_aload hc_57 dX7_load_131 rfl
theorem x_57_133 {ls st : List Value} {h : Hp} {k : Nat}  : ex 57 133 ls (.ref k :: st) h = if kd k = 6 ∧ st.length ≤ 4 then gC (ex 34 0 [.ref k] [] h) 57 136 ls st else none := x_callV (as := []) hc_57 dX7_load_133 rfl mr_7_161 rfl rfl rfl (by decide) (by decide)
theorem x_57_136 {ls st : List Value} {h : Hp} {x : Int32} : ex 57 136 ls (.int x :: st) h = if x = 0 then ex 57 146 ls st h else ex 57 139 ls st h := x_if_eq hc_57 dX7_load_136 rfl (by decide)
theorem x_57_139 {ls st : List Value} {h : Hp}  : ex 57 139 ls (st) h = gA (ldA ls 0) 57 140 ls st h := x_aload_n hc_57 dX7_load_139 rfl rfl
theorem x_57_140 {ls st : List Value} {h : Hp}  : ex 57 140 ls (st) h = ex 57 142 ls (.int (-7) :: st) h := x_bipush hc_57 dX7_load_140 rfl (by decide)
theorem x_57_142 {ls st : List Value} {h : Hp} {k : Nat} {a0 : Int32} : ex 57 142 ls (.int a0 :: .ref k :: st) h = if kd k = 7 ∧ st.length ≤ 4 then gC (ex 45 0 [.ref k, .int a0] [] h) 57 145 ls st else none := x_callV (as := [.int a0]) hc_57 dX7_load_142 rfl mr_7_104 rfl rfl rfl (by decide) (by decide)
theorem x_57_145 {ls : List Value} {h : Hp} {v : Int32} : ex 57 145 ls [.int v] h = some (some (.int v), h) := x_iret hc_57 dX7_load_145 rfl
theorem x_57_146 {ls st : List Value} {h : Hp}  : ex 57 146 ls (st) h = gA (ldA ls 9) 57 148 ls st h := x_aload hc_57 dX7_load_146 rfl
theorem x_57_148 {ls st : List Value} {h : Hp}  : ex 57 148 ls (st) h = gI (ldI ls 6) 57 150 ls st h := x_iload hc_57 dX7_load_148 rfl
theorem x_57_150 {ls st : List Value} {h : Hp} {k : Nat} {x : Int32} : ex 57 150 ls (.int x :: .ref k :: st) h = if kd k = 6 then ex 57 153 ls st (hu h k 0 x) else none := x_putf hc_57 dX7_load_150 rfl fr_7_164 (by decide)
theorem x_57_153 {ls st : List Value} {h : Hp}  : ex 57 153 ls (st) h = gA (ldA ls 9) 57 155 ls st h := x_aload hc_57 dX7_load_153 rfl
theorem x_57_155 {ls st : List Value} {h : Hp}  : ex 57 155 ls (st) h = gI (ldI ls 7) 57 157 ls st h := x_iload hc_57 dX7_load_155 rfl
theorem x_57_157 {ls st : List Value} {h : Hp}  : ex 57 157 ls (st) h = gI (ldI ls 3) 57 158 ls st h := x_iload_n hc_57 dX7_load_157 rfl rfl
theorem x_57_158 {ls st : List Value} {h : Hp}  : ex 57 158 ls (st) h = gI (ldI ls 4) 57 160 ls st h := x_iload hc_57 dX7_load_158 rfl
theorem x_57_160 {ls st : List Value} {h : Hp}  : ex 57 160 ls (st) h = gI (ldI ls 5) 57 162 ls st h := x_iload hc_57 dX7_load_160 rfl
theorem x_57_162 {ls st : List Value} {h : Hp} {k : Nat} {a0 : Int32} {a1 : Int32} {a2 : Int32} {a3 : Int32} : ex 57 162 ls (.int a3 :: .int a2 :: .int a1 :: .int a0 :: .ref k :: st) h = if kd k = 6 ∧ st.length ≤ 4 then gC (ex 35 0 [.ref k, .int a0, .int a1, .int a2, .int a3] [] h) 57 165 ls st else none := x_callV (as := [.int a0, .int a1, .int a2, .int a3]) hc_57 dX7_load_162 rfl mr_7_167 rfl rfl rfl (by decide) (by decide)
theorem x_57_165 {ls st : List Value} {h : Hp}  : ex 57 165 ls (st) h = gI (ldI ls 3) 57 166 ls st h := x_iload_n hc_57 dX7_load_165 rfl rfl
theorem x_57_166 {ls : List Value} {h : Hp} {v : Int32} : ex 57 166 ls [.int v] h = some (some (.int v), h) := x_iret hc_57 dX7_load_166 rfl
theorem x_58_0 {ls st : List Value} {h : Hp}  : ex 58 0 ls (st) h = gI (ldI ls 1) 58 1 ls st h := x_iload_n hc_58 dX7_isCar_0 rfl rfl
theorem x_58_1 {ls st : List Value} {h : Hp} {x : Int32} : ex 58 1 ls (.int x :: st) h = if x < 0 then ex 58 16 ls st h else ex 58 4 ls st h := x_if_lt hc_58 dX7_isCar_1 rfl (by decide)
theorem x_58_4 {ls st : List Value} {h : Hp}  : ex 58 4 ls (st) h = gI (ldI ls 1) 58 5 ls st h := x_iload_n hc_58 dX7_isCar_4 rfl rfl
theorem x_58_5 {ls st : List Value} {h : Hp}  : ex 58 5 ls (st) h = gA (ldA ls 0) 58 6 ls st h := x_aload_n hc_58 dX7_isCar_5 rfl rfl
theorem x_58_6 {ls st : List Value} {h : Hp} {k : Nat} : ex 58 6 ls (.ref k :: st) h = if kd k = 7 then ex 58 9 ls (vl h k 12 :: st) h else none := x_getf hc_58 dX7_isCar_6 rfl fr_7_80
theorem x_58_9 {ls st : List Value} {h : Hp} {x z : Int32} : ex 58 9 ls (.int z :: .int x :: st) h = if x < z then ex 58 12 ls st h else ex 58 16 ls st h := x_icmp_ge hc_58 dX7_isCar_9 rfl (by decide)
theorem x_58_12 {ls st : List Value} {h : Hp}  : ex 58 12 ls (st) h = ex 58 13 ls (.int (1) :: st) h := x_iconst hc_58 dX7_isCar_12 rfl (by decide)
theorem x_58_13 {ls st : List Value} {h : Hp}  : ex 58 13 ls (st) h = ex 58 17 ls st h := x_goto hc_58 dX7_isCar_13 (by decide)
theorem x_58_16 {ls st : List Value} {h : Hp}  : ex 58 16 ls (st) h = ex 58 17 ls (.int (0) :: st) h := x_iconst hc_58 dX7_isCar_16 rfl (by decide)
theorem x_58_17 {ls : List Value} {h : Hp} {v : Int32} : ex 58 17 ls [.int v] h = if v = 0 ∨ v = 1 then some (some (.int v), h) else none := x_zret hc_58 dX7_isCar_17 rfl
theorem x_59_0 {ls st : List Value} {h : Hp}  : ex 59 0 ls (st) h = gA (ldA ls 0) 59 1 ls st h := x_aload_n hc_59 dX7_tier_0 rfl rfl
theorem x_59_1 {ls st : List Value} {h : Hp}  : ex 59 1 ls (st) h = gI (ldI ls 1) 59 2 ls st h := x_iload_n hc_59 dX7_tier_1 rfl rfl
theorem x_59_2 {ls st : List Value} {h : Hp} {k : Nat} {a0 : Int32} : ex 59 2 ls (.int a0 :: .ref k :: st) h = if kd k = 7 ∧ st.length ≤ 4 then gC (ex 58 0 [.ref k, .int a0] [] h) 59 5 ls st else none := x_callV (as := [.int a0]) hc_59 dX7_tier_2 rfl mr_7_148 rfl rfl rfl (by decide) (by decide)
theorem x_59_5 {ls st : List Value} {h : Hp} {x : Int32} : ex 59 5 ls (.int x :: st) h = if x = 0 then ex 59 17 ls st h else ex 59 8 ls st h := x_if_eq hc_59 dX7_tier_5 rfl (by decide)
theorem x_59_8 {ls st : List Value} {h : Hp}  : ex 59 8 ls (st) h = gI (ldI ls 2) 59 9 ls st h := x_iload_n hc_59 dX7_tier_8 rfl rfl
theorem x_59_9 {ls st : List Value} {h : Hp}  : ex 59 9 ls (st) h = ex 59 10 ls (.int (0) :: st) h := x_iconst hc_59 dX7_tier_9 rfl (by decide)
theorem x_59_10 {ls st : List Value} {h : Hp}  : ex 59 10 ls (st) h = ex 59 11 ls (.int (3) :: st) h := x_iconst hc_59 dX7_tier_10 rfl (by decide)
theorem x_59_11 {ls st : List Value} {h : Hp} {a0 : Int32} {a1 : Int32} {a2 : Int32} : ex 59 11 ls (.int a2 :: .int a1 :: .int a0 :: st) h = if st.length ≤ 4 then gC (ex 44 0 [.int a0, .int a1, .int a2] [] h) 59 14 ls st else none := x_callS (as := [.int a0, .int a1, .int a2]) hc_59 dX7_tier_11 rfl mr_7_100 rfl rfl rfl (by decide)
theorem x_59_14 {ls st : List Value} {h : Hp} {x : Int32} : ex 59 14 ls (.int x :: st) h = if x = 0 then ex 59 17 ls st h else ex 59 24 ls st h := x_if_ne hc_59 dX7_tier_14 rfl (by decide)
theorem x_59_17 {ls st : List Value} {h : Hp}  : ex 59 17 ls (st) h = gA (ldA ls 0) 59 18 ls st h := x_aload_n hc_59 dX7_tier_17 rfl rfl
theorem x_59_18 {ls st : List Value} {h : Hp}  : ex 59 18 ls (st) h = ex 59 20 ls (.int (-3) :: st) h := x_bipush hc_59 dX7_tier_18 rfl (by decide)
theorem x_59_20 {ls st : List Value} {h : Hp} {k : Nat} {a0 : Int32} : ex 59 20 ls (.int a0 :: .ref k :: st) h = if kd k = 7 ∧ st.length ≤ 4 then gC (ex 51 0 [.ref k, .int a0] [] h) 59 23 ls st else none := x_callV (as := [.int a0]) hc_59 dX7_tier_20 rfl mr_7_122 rfl rfl rfl (by decide) (by decide)
theorem x_59_23 {ls : List Value} {h : Hp} {v : Int32} : ex 59 23 ls [.int v] h = some (some (.int v), h) := x_iret hc_59 dX7_tier_23 rfl
theorem x_59_24 {ls st : List Value} {h : Hp}  : ex 59 24 ls (st) h = gI (ldI ls 3) 59 25 ls st h := x_iload_n hc_59 dX7_tier_24 rfl rfl
theorem x_59_25 {ls st : List Value} {h : Hp}  : ex 59 25 ls (st) h = ex 59 26 ls (.int (0) :: st) h := x_iconst hc_59 dX7_tier_25 rfl (by decide)
theorem x_59_26 {ls st : List Value} {h : Hp}  : ex 59 26 ls (st) h = ex 59 27 ls (.int (4) :: st) h := x_iconst hc_59 dX7_tier_26 rfl (by decide)
theorem x_59_27 {ls st : List Value} {h : Hp} {a0 : Int32} {a1 : Int32} {a2 : Int32} : ex 59 27 ls (.int a2 :: .int a1 :: .int a0 :: st) h = if st.length ≤ 4 then gC (ex 44 0 [.int a0, .int a1, .int a2] [] h) 59 30 ls st else none := x_callS (as := [.int a0, .int a1, .int a2]) hc_59 dX7_tier_27 rfl mr_7_100 rfl rfl rfl (by decide)
theorem x_59_30 {ls st : List Value} {h : Hp} {x : Int32} : ex 59 30 ls (.int x :: st) h = if x = 0 then ex 59 33 ls st h else ex 59 40 ls st h := x_if_ne hc_59 dX7_tier_30 rfl (by decide)
theorem x_59_33 {ls st : List Value} {h : Hp}  : ex 59 33 ls (st) h = gA (ldA ls 0) 59 34 ls st h := x_aload_n hc_59 dX7_tier_33 rfl rfl
theorem x_59_34 {ls st : List Value} {h : Hp}  : ex 59 34 ls (st) h = ex 59 36 ls (.int (-7) :: st) h := x_bipush hc_59 dX7_tier_34 rfl (by decide)
theorem x_59_36 {ls st : List Value} {h : Hp} {k : Nat} {a0 : Int32} : ex 59 36 ls (.int a0 :: .ref k :: st) h = if kd k = 7 ∧ st.length ≤ 4 then gC (ex 51 0 [.ref k, .int a0] [] h) 59 39 ls st else none := x_callV (as := [.int a0]) hc_59 dX7_tier_36 rfl mr_7_122 rfl rfl rfl (by decide) (by decide)
theorem x_59_39 {ls : List Value} {h : Hp} {v : Int32} : ex 59 39 ls [.int v] h = some (some (.int v), h) := x_iret hc_59 dX7_tier_39 rfl
theorem x_59_40 {ls st : List Value} {h : Hp}  : ex 59 40 ls (st) h = gA (ldA ls 0) 59 41 ls st h := x_aload_n hc_59 dX7_tier_40 rfl rfl
theorem x_59_41 {ls st : List Value} {h : Hp} {k : Nat} : ex 59 41 ls (.ref k :: st) h = if kd k = 7 then ex 59 44 ls (vl h k 1 :: st) h else none := x_getf hc_59 dX7_tier_41 rfl fr_7_17
theorem x_59_44 {ls st : List Value} {h : Hp}  : ex 59 44 ls (st) h = gI (ldI ls 1) 59 45 ls st h := x_iload_n hc_59 dX7_tier_44 rfl rfl
theorem x_59_45 {ls st : List Value} {h : Hp} {k : Nat} {x : Int32} : ex 59 45 ls (.int x :: .ref k :: st) h = if (11 ≤ kd k ∧ kd k ≤ 14) ∧ x.toNatClampNeg < ln k ∧ 0 ≤ x then gA (rf k x.toNatClampNeg) 59 46 ls st h else none := x_aald hc_59 dX7_tier_45 rfl
theorem x_59_46 {ls st : List Value} {h : Hp} {k : Nat} : ex 59 46 ls (.ref k :: st) h = if kd k = 0 then ex 59 49 ls (vl h k 0 :: st) h else none := x_getf hc_59 dX7_tier_46 rfl fr_7_153
theorem x_59_49 {ls st : List Value} {h : Hp}  : ex 59 49 ls (st) h = gI (ldI ls 2) 59 50 ls st h := x_iload_n hc_59 dX7_tier_49 rfl rfl
theorem x_59_50 {ls st : List Value} {h : Hp} {k : Nat} {x : Int32} : ex 59 50 ls (.int x :: .ref k :: st) h = if (11 ≤ kd k ∧ kd k ≤ 14) ∧ x.toNatClampNeg < ln k ∧ 0 ≤ x then gA (rf k x.toNatClampNeg) 59 51 ls st h else none := x_aald hc_59 dX7_tier_50 rfl
theorem x_59_51 {ls st : List Value} {h : Hp} {x : Nat} : ex 59 51 ls (.ref x :: st) h = ex 59 53 (ls.set 4 (.ref x)) st h := x_astore hc_59 dX7_tier_51 rfl (by decide)
theorem x_59_53 {ls st : List Value} {h : Hp}  : ex 59 53 ls (st) h = gI (ldI ls 3) 59 54 ls st h := x_iload_n hc_59 dX7_tier_53 rfl rfl
theorem x_59_54 {ls st : List Value} {h : Hp} {x : Int32} : ex 59 54 ls (.int x :: st) h = if x = 0 then ex 59 57 ls st h else ex 59 63 ls st h := x_if_ne hc_59 dX7_tier_54 rfl (by decide)
theorem x_59_57 {ls st : List Value} {h : Hp}  : ex 59 57 ls (st) h = gA (ldA ls 4) 59 59 ls st h := x_aload hc_59 dX7_tier_57 rfl
theorem x_59_59 {ls st : List Value} {h : Hp} {k : Nat} : ex 59 59 ls (.ref k :: st) h = if kd k = 6 then ex 59 62 ls (vl h k 0 :: st) h else none := x_getf hc_59 dX7_tier_59 rfl fr_7_164
theorem x_59_62 {ls : List Value} {h : Hp} {v : Int32} : ex 59 62 ls [.int v] h = some (some (.int v), h) := x_iret hc_59 dX7_tier_62 rfl
theorem x_59_63 {ls st : List Value} {h : Hp}  : ex 59 63 ls (st) h = gA (ldA ls 4) 59 65 ls st h := x_aload hc_59 dX7_tier_63 rfl
theorem x_59_65 {ls st : List Value} {h : Hp} {k : Nat}  : ex 59 65 ls (.ref k :: st) h = if kd k = 6 ∧ st.length ≤ 4 then gC (ex 34 0 [.ref k] [] h) 59 68 ls st else none := x_callV (as := []) hc_59 dX7_tier_65 rfl mr_7_161 rfl rfl rfl (by decide) (by decide)
theorem x_59_68 {ls st : List Value} {h : Hp} {x : Int32} : ex 59 68 ls (.int x :: st) h = if x = 0 then ex 59 80 ls st h else ex 59 71 ls st h := x_if_eq hc_59 dX7_tier_68 rfl (by decide)
theorem x_59_71 {ls st : List Value} {h : Hp}  : ex 59 71 ls (st) h = gA (ldA ls 4) 59 73 ls st h := x_aload hc_59 dX7_tier_71 rfl
theorem x_59_73 {ls st : List Value} {h : Hp}  : ex 59 73 ls (st) h = gI (ldI ls 3) 59 74 ls st h := x_iload_n hc_59 dX7_tier_73 rfl rfl
theorem x_59_74 {ls st : List Value} {h : Hp} {k : Nat} {a0 : Int32} : ex 59 74 ls (.int a0 :: .ref k :: st) h = if kd k = 6 ∧ st.length ≤ 4 then gC (ex 36 0 [.ref k, .int a0] [] h) 59 77 ls st else none := x_callV (as := [.int a0]) hc_59 dX7_tier_74 rfl mr_7_171 rfl rfl rfl (by decide) (by decide)
theorem x_59_77 {ls st : List Value} {h : Hp}  : ex 59 77 ls (st) h = ex 59 81 ls st h := x_goto hc_59 dX7_tier_77 (by decide)
theorem x_59_80 {ls st : List Value} {h : Hp}  : ex 59 80 ls (st) h = ex 59 81 ls (.int (-1) :: st) h := x_iconst hc_59 dX7_tier_80 rfl (by decide)
theorem x_59_81 {ls : List Value} {h : Hp} {v : Int32} : ex 59 81 ls [.int v] h = some (some (.int v), h) := x_iret hc_59 dX7_tier_81 rfl
theorem x_60_0 {ls st : List Value} {h : Hp}  : ex 60 0 ls (st) h = gA (ldA ls 0) 60 1 ls st h := x_aload_n hc_60 dX7_fill_0 rfl rfl
theorem x_60_1 {ls st : List Value} {h : Hp}  : ex 60 1 ls (st) h = gI (ldI ls 1) 60 2 ls st h := x_iload_n hc_60 dX7_fill_1 rfl rfl
theorem x_60_2 {ls st : List Value} {h : Hp} {k : Nat} {a0 : Int32} : ex 60 2 ls (.int a0 :: .ref k :: st) h = if kd k = 7 ∧ st.length ≤ 4 then gC (ex 58 0 [.ref k, .int a0] [] h) 60 5 ls st else none := x_callV (as := [.int a0]) hc_60 dX7_fill_2 rfl mr_7_148 rfl rfl rfl (by decide) (by decide)
theorem x_60_5 {ls st : List Value} {h : Hp} {x : Int32} : ex 60 5 ls (.int x :: st) h = if x = 0 then ex 60 8 ls st h else ex 60 15 ls st h := x_if_ne hc_60 dX7_fill_5 rfl (by decide)
theorem x_60_8 {ls st : List Value} {h : Hp}  : ex 60 8 ls (st) h = gA (ldA ls 0) 60 9 ls st h := x_aload_n hc_60 dX7_fill_8 rfl rfl
theorem x_60_9 {ls st : List Value} {h : Hp}  : ex 60 9 ls (st) h = ex 60 11 ls (.int (-3) :: st) h := x_bipush hc_60 dX7_fill_9 rfl (by decide)
theorem x_60_11 {ls st : List Value} {h : Hp} {k : Nat} {a0 : Int32} : ex 60 11 ls (.int a0 :: .ref k :: st) h = if kd k = 7 ∧ st.length ≤ 4 then gC (ex 45 0 [.ref k, .int a0] [] h) 60 14 ls st else none := x_callV (as := [.int a0]) hc_60 dX7_fill_11 rfl mr_7_104 rfl rfl rfl (by decide) (by decide)
theorem x_60_14 {ls : List Value} {h : Hp} {v : Int32} : ex 60 14 ls [.int v] h = some (some (.int v), h) := x_iret hc_60 dX7_fill_14 rfl
theorem x_60_15 {ls st : List Value} {h : Hp}  : ex 60 15 ls (st) h = gA (ldA ls 0) 60 16 ls st h := x_aload_n hc_60 dX7_fill_15 rfl rfl
theorem x_60_16 {ls st : List Value} {h : Hp} {k : Nat} : ex 60 16 ls (.ref k :: st) h = if kd k = 7 then ex 60 19 ls (vl h k 1 :: st) h else none := x_getf hc_60 dX7_fill_16 rfl fr_7_17
theorem x_60_19 {ls st : List Value} {h : Hp}  : ex 60 19 ls (st) h = gI (ldI ls 1) 60 20 ls st h := x_iload_n hc_60 dX7_fill_19 rfl rfl
theorem x_60_20 {ls st : List Value} {h : Hp} {k : Nat} {x : Int32} : ex 60 20 ls (.int x :: .ref k :: st) h = if (11 ≤ kd k ∧ kd k ≤ 14) ∧ x.toNatClampNeg < ln k ∧ 0 ≤ x then gA (rf k x.toNatClampNeg) 60 21 ls st h else none := x_aald hc_60 dX7_fill_20 rfl
theorem x_60_21 {ls st : List Value} {h : Hp} {x : Nat} : ex 60 21 ls (.ref x :: st) h = ex 60 22 (ls.set 3 (.ref x)) st h := x_astore_n hc_60 dX7_fill_21 rfl rfl (by decide)
theorem x_60_22 {ls st : List Value} {h : Hp}  : ex 60 22 ls (st) h = gA (ldA ls 3) 60 23 ls st h := x_aload_n hc_60 dX7_fill_22 rfl rfl
theorem x_60_23 {ls st : List Value} {h : Hp} {k : Nat}  : ex 60 23 ls (.ref k :: st) h = if kd k = 0 ∧ st.length ≤ 4 then gC (ex 2 0 [.ref k] [] h) 60 26 ls st else none := x_callV (as := []) hc_60 dX7_fill_23 rfl mr_7_174 rfl rfl rfl (by decide) (by decide)
theorem x_60_26 {ls st : List Value} {h : Hp} {x : Int32} : ex 60 26 ls (.int x :: st) h = if x = 0 then ex 60 29 ls st h else ex 60 66 ls st h := x_if_ne hc_60 dX7_fill_26 rfl (by decide)
theorem x_60_29 {ls st : List Value} {h : Hp}  : ex 60 29 ls (st) h = gI (ldI ls 2) 60 30 ls st h := x_iload_n hc_60 dX7_fill_29 rfl rfl
theorem x_60_30 {ls st : List Value} {h : Hp}  : ex 60 30 ls (st) h = ex 60 31 ls (.int (1) :: st) h := x_iconst hc_60 dX7_fill_30 rfl (by decide)
theorem x_60_31 {ls st : List Value} {h : Hp}  : ex 60 31 ls (st) h = ex 60 33 ls (.int (100) :: st) h := x_bipush hc_60 dX7_fill_31 rfl (by decide)
theorem x_60_33 {ls st : List Value} {h : Hp} {a0 : Int32} {a1 : Int32} {a2 : Int32} : ex 60 33 ls (.int a2 :: .int a1 :: .int a0 :: st) h = if st.length ≤ 4 then gC (ex 44 0 [.int a0, .int a1, .int a2] [] h) 60 36 ls st else none := x_callS (as := [.int a0, .int a1, .int a2]) hc_60 dX7_fill_33 rfl mr_7_100 rfl rfl rfl (by decide)
theorem x_60_36 {ls st : List Value} {h : Hp} {x : Int32} : ex 60 36 ls (.int x :: st) h = if x = 0 then ex 60 66 ls st h else ex 60 39 ls st h := x_if_eq hc_60 dX7_fill_36 rfl (by decide)
theorem x_60_39 {ls st : List Value} {h : Hp}  : ex 60 39 ls (st) h = gA (ldA ls 3) 60 40 ls st h := x_aload_n hc_60 dX7_fill_39 rfl rfl
theorem x_60_40 {ls st : List Value} {h : Hp} {k : Nat} : ex 60 40 ls (.ref k :: st) h = if kd k = 0 then ex 60 43 ls (vl h k 4 :: st) h else none := x_getf hc_60 dX7_fill_40 rfl fr_7_177
theorem x_60_43 {ls st : List Value} {h : Hp}  : ex 60 43 ls (st) h = gI (ldI ls 2) 60 44 ls st h := x_iload_n hc_60 dX7_fill_43 rfl rfl
theorem x_60_44 {ls st : List Value} {h : Hp} {a b : Int32} : ex 60 44 ls (.int b :: .int a :: st) h = ex 60 45 ls (.int (a + b) :: st) h := x_iadd hc_60 dX7_fill_44 rfl
theorem x_60_45 {ls st : List Value} {h : Hp}  : ex 60 45 ls (st) h = ex 60 47 ls (.int (100) :: st) h := x_bipush hc_60 dX7_fill_45 rfl (by decide)
theorem x_60_47 {ls st : List Value} {h : Hp} {x z : Int32} : ex 60 47 ls (.int z :: .int x :: st) h = if z < x then ex 60 66 ls st h else ex 60 50 ls st h := x_icmp_gt hc_60 dX7_fill_47 rfl (by decide)
theorem x_60_50 {ls st : List Value} {h : Hp}  : ex 60 50 ls (st) h = gA (ldA ls 0) 60 51 ls st h := x_aload_n hc_60 dX7_fill_50 rfl rfl
theorem x_60_51 {ls st : List Value} {h : Hp} {k : Nat} : ex 60 51 ls (.ref k :: st) h = if kd k = 7 then ex 60 54 ls (vl h k 5 :: st) h else none := x_getf hc_60 dX7_fill_51 rfl fr_7_44
theorem x_60_54 {ls st : List Value} {h : Hp} {k : Nat} : ex 60 54 ls (.ref k :: st) h = if kd k = 1 then ex 60 57 ls (vl h k 0 :: st) h else none := x_getf hc_60 dX7_fill_54 rfl fr_7_112
theorem x_60_57 {ls st : List Value} {h : Hp}  : ex 60 57 ls (st) h = gA (ldA ls 3) 60 58 ls st h := x_aload_n hc_60 dX7_fill_57 rfl rfl
theorem x_60_58 {ls st : List Value} {h : Hp} {k : Nat} : ex 60 58 ls (.ref k :: st) h = if kd k = 0 then ex 60 61 ls (vl h k 6 :: st) h else none := x_getf hc_60 dX7_fill_58 rfl fr_7_179
theorem x_60_61 {ls st : List Value} {h : Hp} {k : Nat} {x : Int32} : ex 60 61 ls (.int x :: .ref k :: st) h = if kd k = 9 ∧ x.toNatClampNeg < ln k ∧ 0 ≤ x then ex 60 62 ls (.int (h k x.toNatClampNeg) :: st) h else none := x_iald hc_60 dX7_fill_61 rfl
theorem x_60_62 {ls st : List Value} {h : Hp}  : ex 60 62 ls (st) h = gI (ldI ls 2) 60 63 ls st h := x_iload_n hc_60 dX7_fill_62 rfl rfl
theorem x_60_63 {ls st : List Value} {h : Hp} {x z : Int32} : ex 60 63 ls (.int z :: .int x :: st) h = if x < z then ex 60 66 ls st h else ex 60 73 ls st h := x_icmp_ge hc_60 dX7_fill_63 rfl (by decide)
theorem x_60_66 {ls st : List Value} {h : Hp}  : ex 60 66 ls (st) h = gA (ldA ls 0) 60 67 ls st h := x_aload_n hc_60 dX7_fill_66 rfl rfl
theorem x_60_67 {ls st : List Value} {h : Hp}  : ex 60 67 ls (st) h = ex 60 69 ls (.int (-7) :: st) h := x_bipush hc_60 dX7_fill_67 rfl (by decide)
theorem x_60_69 {ls st : List Value} {h : Hp} {k : Nat} {a0 : Int32} : ex 60 69 ls (.int a0 :: .ref k :: st) h = if kd k = 7 ∧ st.length ≤ 4 then gC (ex 45 0 [.ref k, .int a0] [] h) 60 72 ls st else none := x_callV (as := [.int a0]) hc_60 dX7_fill_69 rfl mr_7_104 rfl rfl rfl (by decide) (by decide)
theorem x_60_72 {ls : List Value} {h : Hp} {v : Int32} : ex 60 72 ls [.int v] h = some (some (.int v), h) := x_iret hc_60 dX7_fill_72 rfl
theorem x_60_73 {ls st : List Value} {h : Hp}  : ex 60 73 ls (st) h = gA (ldA ls 0) 60 74 ls st h := x_aload_n hc_60 dX7_fill_73 rfl rfl
theorem x_60_74 {ls st : List Value} {h : Hp} {k : Nat} : ex 60 74 ls (.ref k :: st) h = if kd k = 7 then ex 60 77 ls (vl h k 5 :: st) h else none := x_getf hc_60 dX7_fill_74 rfl fr_7_44
theorem x_60_77 {ls st : List Value} {h : Hp}  : ex 60 77 ls (st) h = gA (ldA ls 3) 60 78 ls st h := x_aload_n hc_60 dX7_fill_77 rfl rfl
theorem x_60_78 {ls st : List Value} {h : Hp}  : ex 60 78 ls (st) h = gI (ldI ls 2) 60 79 ls st h := x_iload_n hc_60 dX7_fill_78 rfl rfl
theorem x_60_79 {ls st : List Value} {h : Hp} {k : Nat} {a0 : Nat} {a1 : Int32} : ex 60 79 ls (.int a1 :: .ref a0 :: .ref k :: st) h = if kd k = 1 ∧ st.length ≤ 4 then gC (ex 13 0 [.ref k, .ref a0, .int a1] [] h) 60 82 ls st else none := x_callV (as := [.ref a0, .int a1]) hc_60 dX7_fill_79 rfl mr_7_182 rfl rfl rfl (by decide) (by decide)
theorem x_60_82 {ls st : List Value} {h : Hp}  : ex 60 82 ls (st) h = gA (ldA ls 3) 60 83 ls st h := x_aload_n hc_60 dX7_fill_82 rfl rfl
theorem x_60_83 {ls st : List Value} {h : Hp} {k : Nat} : ex 60 83 ls (.ref k :: st) h = if kd k = 0 then ex 60 86 ls (vl h k 4 :: st) h else none := x_getf hc_60 dX7_fill_83 rfl fr_7_177
theorem x_60_86 {ls : List Value} {h : Hp} {v : Int32} : ex 60 86 ls [.int v] h = some (some (.int v), h) := x_iret hc_60 dX7_fill_86 rfl
theorem x_61_0 {ls st : List Value} {h : Hp}  : ex 61 0 ls (st) h = gA (ldA ls 0) 61 1 ls st h := x_aload_n hc_61 dX7_vent_0 rfl rfl
theorem x_61_1 {ls st : List Value} {h : Hp}  : ex 61 1 ls (st) h = gI (ldI ls 1) 61 2 ls st h := x_iload_n hc_61 dX7_vent_1 rfl rfl
theorem x_61_2 {ls st : List Value} {h : Hp} {k : Nat} {a0 : Int32} : ex 61 2 ls (.int a0 :: .ref k :: st) h = if kd k = 7 ∧ st.length ≤ 4 then gC (ex 58 0 [.ref k, .int a0] [] h) 61 5 ls st else none := x_callV (as := [.int a0]) hc_61 dX7_vent_2 rfl mr_7_148 rfl rfl rfl (by decide) (by decide)
theorem x_61_5 {ls st : List Value} {h : Hp} {x : Int32} : ex 61 5 ls (.int x :: st) h = if x = 0 then ex 61 8 ls st h else ex 61 15 ls st h := x_if_ne hc_61 dX7_vent_5 rfl (by decide)
theorem x_61_8 {ls st : List Value} {h : Hp}  : ex 61 8 ls (st) h = gA (ldA ls 0) 61 9 ls st h := x_aload_n hc_61 dX7_vent_8 rfl rfl
theorem x_61_9 {ls st : List Value} {h : Hp}  : ex 61 9 ls (st) h = ex 61 11 ls (.int (-3) :: st) h := x_bipush hc_61 dX7_vent_9 rfl (by decide)
theorem x_61_11 {ls st : List Value} {h : Hp} {k : Nat} {a0 : Int32} : ex 61 11 ls (.int a0 :: .ref k :: st) h = if kd k = 7 ∧ st.length ≤ 4 then gC (ex 45 0 [.ref k, .int a0] [] h) 61 14 ls st else none := x_callV (as := [.int a0]) hc_61 dX7_vent_11 rfl mr_7_104 rfl rfl rfl (by decide) (by decide)
theorem x_61_14 {ls : List Value} {h : Hp} {v : Int32} : ex 61 14 ls [.int v] h = some (some (.int v), h) := x_iret hc_61 dX7_vent_14 rfl
theorem x_61_15 {ls st : List Value} {h : Hp}  : ex 61 15 ls (st) h = gI (ldI ls 2) 61 16 ls st h := x_iload_n hc_61 dX7_vent_15 rfl rfl
theorem x_61_16 {ls st : List Value} {h : Hp}  : ex 61 16 ls (st) h = ex 61 17 ls (.int (0) :: st) h := x_iconst hc_61 dX7_vent_16 rfl (by decide)
theorem x_61_17 {ls st : List Value} {h : Hp}  : ex 61 17 ls (st) h = ex 61 18 ls (.int (1) :: st) h := x_iconst hc_61 dX7_vent_17 rfl (by decide)
theorem x_61_18 {ls st : List Value} {h : Hp} {a0 : Int32} {a1 : Int32} {a2 : Int32} : ex 61 18 ls (.int a2 :: .int a1 :: .int a0 :: st) h = if st.length ≤ 4 then gC (ex 44 0 [.int a0, .int a1, .int a2] [] h) 61 21 ls st else none := x_callS (as := [.int a0, .int a1, .int a2]) hc_61 dX7_vent_18 rfl mr_7_100 rfl rfl rfl (by decide)
theorem x_61_21 {ls st : List Value} {h : Hp} {x : Int32} : ex 61 21 ls (.int x :: st) h = if x = 0 then ex 61 24 ls st h else ex 61 31 ls st h := x_if_ne hc_61 dX7_vent_21 rfl (by decide)
theorem x_61_24 {ls st : List Value} {h : Hp}  : ex 61 24 ls (st) h = gA (ldA ls 0) 61 25 ls st h := x_aload_n hc_61 dX7_vent_24 rfl rfl
theorem x_61_25 {ls st : List Value} {h : Hp}  : ex 61 25 ls (st) h = ex 61 27 ls (.int (-7) :: st) h := x_bipush hc_61 dX7_vent_25 rfl (by decide)
theorem x_61_27 {ls st : List Value} {h : Hp} {k : Nat} {a0 : Int32} : ex 61 27 ls (.int a0 :: .ref k :: st) h = if kd k = 7 ∧ st.length ≤ 4 then gC (ex 45 0 [.ref k, .int a0] [] h) 61 30 ls st else none := x_callV (as := [.int a0]) hc_61 dX7_vent_27 rfl mr_7_104 rfl rfl rfl (by decide) (by decide)
theorem x_61_30 {ls : List Value} {h : Hp} {v : Int32} : ex 61 30 ls [.int v] h = some (some (.int v), h) := x_iret hc_61 dX7_vent_30 rfl
theorem x_61_31 {ls st : List Value} {h : Hp}  : ex 61 31 ls (st) h = gA (ldA ls 0) 61 32 ls st h := x_aload_n hc_61 dX7_vent_31 rfl rfl
theorem x_61_32 {ls st : List Value} {h : Hp} {k : Nat} : ex 61 32 ls (.ref k :: st) h = if kd k = 7 then ex 61 35 ls (vl h k 1 :: st) h else none := x_getf hc_61 dX7_vent_32 rfl fr_7_17
theorem x_61_35 {ls st : List Value} {h : Hp}  : ex 61 35 ls (st) h = gI (ldI ls 1) 61 36 ls st h := x_iload_n hc_61 dX7_vent_35 rfl rfl
theorem x_61_36 {ls st : List Value} {h : Hp} {k : Nat} {x : Int32} : ex 61 36 ls (.int x :: .ref k :: st) h = if (11 ≤ kd k ∧ kd k ≤ 14) ∧ x.toNatClampNeg < ln k ∧ 0 ≤ x then gA (rf k x.toNatClampNeg) 61 37 ls st h else none := x_aald hc_61 dX7_vent_36 rfl
theorem x_61_37 {ls st : List Value} {h : Hp} {k : Nat} : ex 61 37 ls (.ref k :: st) h = if kd k = 0 then ex 61 40 ls (vl h k 5 :: st) h else none := x_getf hc_61 dX7_vent_37 rfl fr_7_186
theorem x_61_40 {ls st : List Value} {h : Hp} {x : Int32} : ex 61 40 ls (.int x :: st) h = ex 61 41 (ls.set 3 (.int x)) st h := x_istore_n hc_61 dX7_vent_40 rfl rfl (by decide)
theorem x_61_41 {ls st : List Value} {h : Hp}  : ex 61 41 ls (st) h = gA (ldA ls 0) 61 42 ls st h := x_aload_n hc_61 dX7_vent_41 rfl rfl
theorem x_61_42 {ls st : List Value} {h : Hp} {k : Nat} : ex 61 42 ls (.ref k :: st) h = if kd k = 7 then ex 61 45 ls (vl h k 1 :: st) h else none := x_getf hc_61 dX7_vent_42 rfl fr_7_17
theorem x_61_45 {ls st : List Value} {h : Hp}  : ex 61 45 ls (st) h = gI (ldI ls 1) 61 46 ls st h := x_iload_n hc_61 dX7_vent_45 rfl rfl
theorem x_61_46 {ls st : List Value} {h : Hp} {k : Nat} {x : Int32} : ex 61 46 ls (.int x :: .ref k :: st) h = if (11 ≤ kd k ∧ kd k ≤ 14) ∧ x.toNatClampNeg < ln k ∧ 0 ≤ x then gA (rf k x.toNatClampNeg) 61 47 ls st h else none := x_aald hc_61 dX7_vent_46 rfl
theorem x_61_47 {ls st : List Value} {h : Hp}  : ex 61 47 ls (st) h = gI (ldI ls 2) 61 48 ls st h := x_iload_n hc_61 dX7_vent_47 rfl rfl
theorem x_61_48 {ls st : List Value} {h : Hp} {k : Nat} {x : Int32} : ex 61 48 ls (.int x :: .ref k :: st) h = if kd k = 0 then ex 61 51 ls st (hu h k 5 x) else none := x_putf hc_61 dX7_vent_48 rfl fr_7_186 (by decide)
theorem x_61_51 {ls st : List Value} {h : Hp}  : ex 61 51 ls (st) h = gI (ldI ls 3) 61 52 ls st h := x_iload_n hc_61 dX7_vent_51 rfl rfl
theorem x_61_52 {ls : List Value} {h : Hp} {v : Int32} : ex 61 52 ls [.int v] h = some (some (.int v), h) := x_iret hc_61 dX7_vent_52 rfl
theorem x_62_0 {ls st : List Value} {h : Hp}  : ex 62 0 ls (st) h = gA (ldA ls 0) 62 1 ls st h := x_aload_n hc_62 dX7_send_0 rfl rfl
theorem x_62_1 {ls st : List Value} {h : Hp}  : ex 62 1 ls (st) h = gI (ldI ls 1) 62 2 ls st h := x_iload_n hc_62 dX7_send_1 rfl rfl
theorem x_62_2 {ls st : List Value} {h : Hp} {k : Nat} {a0 : Int32} : ex 62 2 ls (.int a0 :: .ref k :: st) h = if kd k = 7 ∧ st.length ≤ 4 then gC (ex 58 0 [.ref k, .int a0] [] h) 62 5 ls st else none := x_callV (as := [.int a0]) hc_62 dX7_send_2 rfl mr_7_148 rfl rfl rfl (by decide) (by decide)
theorem x_62_5 {ls st : List Value} {h : Hp} {x : Int32} : ex 62 5 ls (.int x :: st) h = if x = 0 then ex 62 16 ls st h else ex 62 8 ls st h := x_if_eq hc_62 dX7_send_5 rfl (by decide)
theorem x_62_8 {ls st : List Value} {h : Hp}  : ex 62 8 ls (st) h = gA (ldA ls 0) 62 9 ls st h := x_aload_n hc_62 dX7_send_8 rfl rfl
theorem x_62_9 {ls st : List Value} {h : Hp}  : ex 62 9 ls (st) h = gI (ldI ls 2) 62 10 ls st h := x_iload_n hc_62 dX7_send_9 rfl rfl
theorem x_62_10 {ls st : List Value} {h : Hp} {k : Nat} {a0 : Int32} : ex 62 10 ls (.int a0 :: .ref k :: st) h = if kd k = 7 ∧ st.length ≤ 4 then gC (ex 47 0 [.ref k, .int a0] [] h) 62 13 ls st else none := x_callV (as := [.int a0]) hc_62 dX7_send_10 rfl mr_7_108 rfl rfl rfl (by decide) (by decide)
theorem x_62_13 {ls st : List Value} {h : Hp} {x : Int32} : ex 62 13 ls (.int x :: st) h = if x = 0 then ex 62 16 ls st h else ex 62 23 ls st h := x_if_ne hc_62 dX7_send_13 rfl (by decide)
theorem x_62_16 {ls st : List Value} {h : Hp}  : ex 62 16 ls (st) h = gA (ldA ls 0) 62 17 ls st h := x_aload_n hc_62 dX7_send_16 rfl rfl
theorem x_62_17 {ls st : List Value} {h : Hp}  : ex 62 17 ls (st) h = ex 62 19 ls (.int (-3) :: st) h := x_bipush hc_62 dX7_send_17 rfl (by decide)
theorem x_62_19 {ls st : List Value} {h : Hp} {k : Nat} {a0 : Int32} : ex 62 19 ls (.int a0 :: .ref k :: st) h = if kd k = 7 ∧ st.length ≤ 4 then gC (ex 45 0 [.ref k, .int a0] [] h) 62 22 ls st else none := x_callV (as := [.int a0]) hc_62 dX7_send_19 rfl mr_7_104 rfl rfl rfl (by decide) (by decide)
theorem x_62_22 {ls : List Value} {h : Hp} {v : Int32} : ex 62 22 ls [.int v] h = some (some (.int v), h) := x_iret hc_62 dX7_send_22 rfl
theorem x_62_23 {ls st : List Value} {h : Hp}  : ex 62 23 ls (st) h = gA (ldA ls 0) 62 24 ls st h := x_aload_n hc_62 dX7_send_23 rfl rfl
theorem x_62_24 {ls st : List Value} {h : Hp} {k : Nat} : ex 62 24 ls (.ref k :: st) h = if kd k = 7 then ex 62 27 ls (vl h k 1 :: st) h else none := x_getf hc_62 dX7_send_24 rfl fr_7_17
theorem x_62_27 {ls st : List Value} {h : Hp}  : ex 62 27 ls (st) h = gI (ldI ls 1) 62 28 ls st h := x_iload_n hc_62 dX7_send_27 rfl rfl
theorem x_62_28 {ls st : List Value} {h : Hp} {k : Nat} {x : Int32} : ex 62 28 ls (.int x :: .ref k :: st) h = if (11 ≤ kd k ∧ kd k ≤ 14) ∧ x.toNatClampNeg < ln k ∧ 0 ≤ x then gA (rf k x.toNatClampNeg) 62 29 ls st h else none := x_aald hc_62 dX7_send_28 rfl
theorem x_62_29 {ls st : List Value} {h : Hp} {x : Nat} : ex 62 29 ls (.ref x :: st) h = ex 62 30 (ls.set 3 (.ref x)) st h := x_astore_n hc_62 dX7_send_29 rfl rfl (by decide)
theorem x_62_30 {ls st : List Value} {h : Hp}  : ex 62 30 ls (st) h = gA (ldA ls 3) 62 31 ls st h := x_aload_n hc_62 dX7_send_30 rfl rfl
theorem x_62_31 {ls st : List Value} {h : Hp} {k : Nat}  : ex 62 31 ls (.ref k :: st) h = if kd k = 0 ∧ st.length ≤ 4 then gC (ex 1 0 [.ref k] [] h) 62 34 ls st else none := x_callV (as := []) hc_62 dX7_send_31 rfl mr_7_157 rfl rfl rfl (by decide) (by decide)
theorem x_62_34 {ls st : List Value} {h : Hp} {x : Int32} : ex 62 34 ls (.int x :: st) h = if x = 0 then ex 62 37 ls st h else ex 62 45 ls st h := x_if_ne hc_62 dX7_send_34 rfl (by decide)
theorem x_62_37 {ls st : List Value} {h : Hp}  : ex 62 37 ls (st) h = gA (ldA ls 3) 62 38 ls st h := x_aload_n hc_62 dX7_send_37 rfl rfl
theorem x_62_38 {ls st : List Value} {h : Hp}  : ex 62 38 ls (st) h = gI (ldI ls 2) 62 39 ls st h := x_iload_n hc_62 dX7_send_38 rfl rfl
theorem x_62_39 {ls st : List Value} {h : Hp} {k : Nat} {a0 : Int32} : ex 62 39 ls (.int a0 :: .ref k :: st) h = if kd k = 0 ∧ st.length ≤ 4 then gC (ex 3 0 [.ref k, .int a0] [] h) 62 42 ls st else none := x_callV (as := [.int a0]) hc_62 dX7_send_39 rfl mr_7_189 rfl rfl rfl (by decide) (by decide)
theorem x_62_42 {ls st : List Value} {h : Hp} {x : Int32} : ex 62 42 ls (.int x :: st) h = if x = 0 then ex 62 45 ls st h else ex 62 52 ls st h := x_if_ne hc_62 dX7_send_42 rfl (by decide)
theorem x_62_45 {ls st : List Value} {h : Hp}  : ex 62 45 ls (st) h = gA (ldA ls 0) 62 46 ls st h := x_aload_n hc_62 dX7_send_45 rfl rfl
theorem x_62_46 {ls st : List Value} {h : Hp}  : ex 62 46 ls (st) h = ex 62 48 ls (.int (-7) :: st) h := x_bipush hc_62 dX7_send_46 rfl (by decide)
theorem x_62_48 {ls st : List Value} {h : Hp} {k : Nat} {a0 : Int32} : ex 62 48 ls (.int a0 :: .ref k :: st) h = if kd k = 7 ∧ st.length ≤ 4 then gC (ex 45 0 [.ref k, .int a0] [] h) 62 51 ls st else none := x_callV (as := [.int a0]) hc_62 dX7_send_48 rfl mr_7_104 rfl rfl rfl (by decide) (by decide)
theorem x_62_51 {ls : List Value} {h : Hp} {v : Int32} : ex 62 51 ls [.int v] h = some (some (.int v), h) := x_iret hc_62 dX7_send_51 rfl
theorem x_62_52 {ls st : List Value} {h : Hp}  : ex 62 52 ls (st) h = gA (ldA ls 3) 62 53 ls st h := x_aload_n hc_62 dX7_send_52 rfl rfl
theorem x_62_53 {ls st : List Value} {h : Hp}  : ex 62 53 ls (st) h = gI (ldI ls 2) 62 54 ls st h := x_iload_n hc_62 dX7_send_53 rfl rfl
theorem x_62_54 {ls st : List Value} {h : Hp}  : ex 62 54 ls (st) h = gA (ldA ls 0) 62 55 ls st h := x_aload_n hc_62 dX7_send_54 rfl rfl
theorem x_62_55 {ls st : List Value} {h : Hp} {k : Nat} : ex 62 55 ls (.ref k :: st) h = if kd k = 7 then ex 62 58 ls (vl h k 0 :: st) h else none := x_getf hc_62 dX7_send_55 rfl fr_7_11
theorem x_62_58 {ls st : List Value} {h : Hp}  : ex 62 58 ls (st) h = gA (ldA ls 3) 62 59 ls st h := x_aload_n hc_62 dX7_send_58 rfl rfl
theorem x_62_59 {ls st : List Value} {h : Hp} {k : Nat} : ex 62 59 ls (.ref k :: st) h = if kd k = 0 then ex 62 62 ls (vl h k 6 :: st) h else none := x_getf hc_62 dX7_send_59 rfl fr_7_179
theorem x_62_62 {ls st : List Value} {h : Hp} {k : Nat} {x : Int32} : ex 62 62 ls (.int x :: .ref k :: st) h = if (11 ≤ kd k ∧ kd k ≤ 14) ∧ x.toNatClampNeg < ln k ∧ 0 ≤ x then gA (rf k x.toNatClampNeg) 62 63 ls st h else none := x_aald hc_62 dX7_send_62 rfl
theorem x_62_63 {ls st : List Value} {h : Hp} {k : Nat} : ex 62 63 ls (.ref k :: st) h = if kd k = 4 then ex 62 66 ls (vl h k 6 :: st) h else none := x_getf hc_62 dX7_send_63 rfl fr_7_192
theorem x_62_66 {ls st : List Value} {h : Hp} {k : Nat} {a0 : Int32} {a1 : Int32} : ex 62 66 ls (.int a1 :: .int a0 :: .ref k :: st) h = if kd k = 0 ∧ st.length ≤ 4 then gC (ex 4 0 [.ref k, .int a0, .int a1] [] h) 62 69 ls st else none := x_callV (as := [.int a0, .int a1]) hc_62 dX7_send_66 rfl mr_7_195 rfl rfl rfl (by decide) (by decide)
theorem x_62_69 {ls st : List Value} {h : Hp}  : ex 62 69 ls (st) h = gA (ldA ls 0) 62 70 ls st h := x_aload_n hc_62 dX7_send_69 rfl rfl
theorem x_62_70 {ls st : List Value} {h : Hp}  : ex 62 70 ls (st) h = gA (ldA ls 3) 62 71 ls st h := x_aload_n hc_62 dX7_send_70 rfl rfl
theorem x_62_71 {ls st : List Value} {h : Hp} {k : Nat} {a0 : Nat} : ex 62 71 ls (.ref a0 :: .ref k :: st) h = if kd k = 7 ∧ st.length ≤ 4 then gC (ex 63 0 [.ref k, .ref a0, .null, .null, .null] [] h) 62 74 ls st else none := x_callV (as := [.ref a0]) hc_62 dX7_send_71 rfl mr_7_199 rfl rfl rfl (by decide) (by decide)
theorem x_62_74 {ls : List Value} {h : Hp} {v : Int32} : ex 62 74 ls [.int v] h = some (some (.int v), h) := x_iret hc_62 dX7_send_74 rfl
theorem x_63_0 {ls st : List Value} {h : Hp}  : ex 63 0 ls (st) h = gA (ldA ls 1) 63 1 ls st h := x_aload_n hc_63 dX7_hoursLeft_0 rfl rfl
theorem x_63_1 {ls st : List Value} {h : Hp} {k : Nat}  : ex 63 1 ls (.ref k :: st) h = if kd k = 0 ∧ st.length ≤ 4 then gC (ex 2 0 [.ref k] [] h) 63 4 ls st else none := x_callV (as := []) hc_63 dX7_hoursLeft_1 rfl mr_7_174 rfl rfl rfl (by decide) (by decide)
theorem x_63_4 {ls st : List Value} {h : Hp} {x : Int32} : ex 63 4 ls (.int x :: st) h = if x = 0 then ex 63 14 ls st h else ex 63 7 ls st h := x_if_eq hc_63 dX7_hoursLeft_4 rfl (by decide)
theorem x_63_7 {ls st : List Value} {h : Hp}  : ex 63 7 ls (st) h = gA (ldA ls 1) 63 8 ls st h := x_aload_n hc_63 dX7_hoursLeft_7 rfl rfl
theorem x_63_8 {ls st : List Value} {h : Hp} {k : Nat}  : ex 63 8 ls (.ref k :: st) h = if kd k = 0 ∧ st.length ≤ 4 then gC (ex 5 0 [.ref k] [] h) 63 11 ls st else none := x_callV (as := []) hc_63 dX7_hoursLeft_8 rfl mr_7_282 rfl rfl rfl (by decide) (by decide)
theorem x_63_11 {ls st : List Value} {h : Hp}  : ex 63 11 ls (st) h = ex 63 18 ls st h := x_goto hc_63 dX7_hoursLeft_11 (by decide)
theorem x_63_14 {ls st : List Value} {h : Hp}  : ex 63 14 ls (st) h = gA (ldA ls 1) 63 15 ls st h := x_aload_n hc_63 dX7_hoursLeft_14 rfl rfl
theorem x_63_15 {ls st : List Value} {h : Hp} {k : Nat} : ex 63 15 ls (.ref k :: st) h = if kd k = 0 then ex 63 18 ls (vl h k 6 :: st) h else none := x_getf hc_63 dX7_hoursLeft_15 rfl fr_7_179
theorem x_63_18 {ls st : List Value} {h : Hp} {x : Int32} : ex 63 18 ls (.int x :: st) h = ex 63 19 (ls.set 2 (.int x)) st h := x_istore_n hc_63 dX7_hoursLeft_18 rfl rfl (by decide)
theorem x_63_19 {ls st : List Value} {h : Hp}  : ex 63 19 ls (st) h = gA (ldA ls 1) 63 20 ls st h := x_aload_n hc_63 dX7_hoursLeft_19 rfl rfl
theorem x_63_20 {ls st : List Value} {h : Hp} {k : Nat} : ex 63 20 ls (.ref k :: st) h = if kd k = 0 then ex 63 23 ls (vl h k 8 :: st) h else none := x_getf hc_63 dX7_hoursLeft_20 rfl fr_7_206
theorem x_63_23 {ls st : List Value} {h : Hp} {x : Int32} : ex 63 23 ls (.int x :: st) h = ex 63 24 (ls.set 3 (.int x)) st h := x_istore_n hc_63 dX7_hoursLeft_23 rfl rfl (by decide)
theorem x_63_24 {ls st : List Value} {h : Hp}  : ex 63 24 ls (st) h = gI (ldI ls 2) 63 25 ls st h := x_iload_n hc_63 dX7_hoursLeft_24 rfl rfl
theorem x_63_25 {ls st : List Value} {h : Hp}  : ex 63 25 ls (st) h = gA (ldA ls 1) 63 26 ls st h := x_aload_n hc_63 dX7_hoursLeft_25 rfl rfl
theorem x_63_26 {ls st : List Value} {h : Hp} {k : Nat} : ex 63 26 ls (.ref k :: st) h = if kd k = 0 then ex 63 29 ls (vl h k 7 :: st) h else none := x_getf hc_63 dX7_hoursLeft_26 rfl fr_7_203
theorem x_63_29 {ls st : List Value} {h : Hp} {a0 : Int32} {a1 : Int32} : ex 63 29 ls (.int a1 :: .int a0 :: st) h = if st.length ≤ 4 then gC (ex 148 0 [.int a0, .int a1] [] h) 63 32 ls st else none := x_callS (as := [.int a0, .int a1]) hc_63 dX7_hoursLeft_29 rfl mr_7_276 rfl rfl rfl (by decide)
theorem x_63_32 {ls st : List Value} {h : Hp} {x : Int32} : ex 63 32 ls (.int x :: st) h = ex 63 34 (ls.set 4 (.int x)) st h := x_istore hc_63 dX7_hoursLeft_32 rfl (by decide)
theorem x_63_34 {ls st : List Value} {h : Hp}  : ex 63 34 ls (st) h = gI (ldI ls 4) 63 36 ls st h := x_iload hc_63 dX7_hoursLeft_34 rfl
theorem x_63_36 {ls st : List Value} {h : Hp}  : ex 63 36 ls (st) h = gI (ldI ls 2) 63 37 ls st h := x_iload_n hc_63 dX7_hoursLeft_36 rfl rfl
theorem x_63_37 {ls st : List Value} {h : Hp}  : ex 63 37 ls (st) h = gA (ldA ls 1) 63 38 ls st h := x_aload_n hc_63 dX7_hoursLeft_37 rfl rfl
theorem x_63_38 {ls st : List Value} {h : Hp} {k : Nat} : ex 63 38 ls (.ref k :: st) h = if kd k = 0 then ex 63 41 ls (vl h k 7 :: st) h else none := x_getf hc_63 dX7_hoursLeft_38 rfl fr_7_203
theorem x_63_41 {ls st : List Value} {h : Hp} {a0 : Int32} {a1 : Int32} : ex 63 41 ls (.int a1 :: .int a0 :: st) h = if st.length ≤ 4 then gC (ex 149 0 [.int a0, .int a1] [] h) 63 44 ls st else none := x_callS (as := [.int a0, .int a1]) hc_63 dX7_hoursLeft_41 rfl mr_7_286 rfl rfl rfl (by decide)
theorem x_63_44 {ls st : List Value} {h : Hp} {x z : Int32} : ex 63 44 ls (.int z :: .int x :: st) h = if x < z then ex 63 47 ls st h else ex 63 66 ls st h := x_icmp_ge hc_63 dX7_hoursLeft_44 rfl (by decide)
theorem x_63_47 {ls st : List Value} {h : Hp}  : ex 63 47 ls (st) h = gI (ldI ls 3) 63 48 ls st h := x_iload_n hc_63 dX7_hoursLeft_47 rfl rfl
theorem x_63_48 {ls st : List Value} {h : Hp}  : ex 63 48 ls (st) h = gA (ldA ls 0) 63 49 ls st h := x_aload_n hc_63 dX7_hoursLeft_48 rfl rfl
theorem x_63_49 {ls st : List Value} {h : Hp} {k : Nat} : ex 63 49 ls (.ref k :: st) h = if kd k = 7 then ex 63 52 ls (vl h k 0 :: st) h else none := x_getf hc_63 dX7_hoursLeft_49 rfl fr_7_11
theorem x_63_52 {ls st : List Value} {h : Hp}  : ex 63 52 ls (st) h = gI (ldI ls 4) 63 54 ls st h := x_iload hc_63 dX7_hoursLeft_52 rfl
theorem x_63_54 {ls st : List Value} {h : Hp} {k : Nat} {x : Int32} : ex 63 54 ls (.int x :: .ref k :: st) h = if (11 ≤ kd k ∧ kd k ≤ 14) ∧ x.toNatClampNeg < ln k ∧ 0 ≤ x then gA (rf k x.toNatClampNeg) 63 55 ls st h else none := x_aald hc_63 dX7_hoursLeft_54 rfl
theorem x_63_55 {ls st : List Value} {h : Hp} {k : Nat} : ex 63 55 ls (.ref k :: st) h = if kd k = 4 then ex 63 58 ls (vl h k 7 :: st) h else none := x_getf hc_63 dX7_hoursLeft_55 rfl fr_7_97
theorem x_63_58 {ls st : List Value} {h : Hp} {a b : Int32} : ex 63 58 ls (.int b :: .int a :: st) h = ex 63 59 ls (.int (a + b) :: st) h := x_iadd hc_63 dX7_hoursLeft_58 rfl
theorem x_63_59 {ls st : List Value} {h : Hp} {x : Int32} : ex 63 59 ls (.int x :: st) h = ex 63 60 (ls.set 3 (.int x)) st h := x_istore_n hc_63 dX7_hoursLeft_59 rfl rfl (by decide)
theorem x_63_60 {ls st : List Value} {h : Hp}  : ex 63 60 ls (st) h = gN (ldI ls 4) 63 63 ls 4 (1) st h := x_iinc hc_63 dX7_hoursLeft_60 rfl (by decide) (by decide)
theorem x_63_63 {ls st : List Value} {h : Hp}  : ex 63 63 ls (st) h = ex 63 34 ls st h := x_goto hc_63 dX7_hoursLeft_63 (by decide)
theorem x_63_66 {ls st : List Value} {h : Hp}  : ex 63 66 ls (st) h = gI (ldI ls 3) 63 67 ls st h := x_iload_n hc_63 dX7_hoursLeft_66 rfl rfl
theorem x_63_67 {ls : List Value} {h : Hp} {v : Int32} : ex 63 67 ls [.int v] h = some (some (.int v), h) := x_iret hc_63 dX7_hoursLeft_67 rfl
theorem x_64_0 {ls st : List Value} {h : Hp}  : ex 64 0 ls (st) h = gA (ldA ls 0) 64 1 ls st h := x_aload_n hc_64 dX7_turn_0 rfl rfl
theorem x_64_1 {ls st : List Value} {h : Hp}  : ex 64 1 ls (st) h = gI (ldI ls 1) 64 2 ls st h := x_iload_n hc_64 dX7_turn_1 rfl rfl
theorem x_64_2 {ls st : List Value} {h : Hp} {k : Nat} {a0 : Int32} : ex 64 2 ls (.int a0 :: .ref k :: st) h = if kd k = 7 ∧ st.length ≤ 4 then gC (ex 58 0 [.ref k, .int a0] [] h) 64 5 ls st else none := x_callV (as := [.int a0]) hc_64 dX7_turn_2 rfl mr_7_148 rfl rfl rfl (by decide) (by decide)
theorem x_64_5 {ls st : List Value} {h : Hp} {x : Int32} : ex 64 5 ls (.int x :: st) h = if x = 0 then ex 64 16 ls st h else ex 64 8 ls st h := x_if_eq hc_64 dX7_turn_5 rfl (by decide)
theorem x_64_8 {ls st : List Value} {h : Hp}  : ex 64 8 ls (st) h = gA (ldA ls 0) 64 9 ls st h := x_aload_n hc_64 dX7_turn_8 rfl rfl
theorem x_64_9 {ls st : List Value} {h : Hp}  : ex 64 9 ls (st) h = gI (ldI ls 2) 64 10 ls st h := x_iload_n hc_64 dX7_turn_9 rfl rfl
theorem x_64_10 {ls st : List Value} {h : Hp} {k : Nat} {a0 : Int32} : ex 64 10 ls (.int a0 :: .ref k :: st) h = if kd k = 7 ∧ st.length ≤ 4 then gC (ex 47 0 [.ref k, .int a0] [] h) 64 13 ls st else none := x_callV (as := [.int a0]) hc_64 dX7_turn_10 rfl mr_7_108 rfl rfl rfl (by decide) (by decide)
theorem x_64_13 {ls st : List Value} {h : Hp} {x : Int32} : ex 64 13 ls (.int x :: st) h = if x = 0 then ex 64 16 ls st h else ex 64 23 ls st h := x_if_ne hc_64 dX7_turn_13 rfl (by decide)
theorem x_64_16 {ls st : List Value} {h : Hp}  : ex 64 16 ls (st) h = gA (ldA ls 0) 64 17 ls st h := x_aload_n hc_64 dX7_turn_16 rfl rfl
theorem x_64_17 {ls st : List Value} {h : Hp}  : ex 64 17 ls (st) h = ex 64 19 ls (.int (-3) :: st) h := x_bipush hc_64 dX7_turn_17 rfl (by decide)
theorem x_64_19 {ls st : List Value} {h : Hp} {k : Nat} {a0 : Int32} : ex 64 19 ls (.int a0 :: .ref k :: st) h = if kd k = 7 ∧ st.length ≤ 4 then gC (ex 45 0 [.ref k, .int a0] [] h) 64 22 ls st else none := x_callV (as := [.int a0]) hc_64 dX7_turn_19 rfl mr_7_104 rfl rfl rfl (by decide) (by decide)
theorem x_64_22 {ls : List Value} {h : Hp} {v : Int32} : ex 64 22 ls [.int v] h = some (some (.int v), h) := x_iret hc_64 dX7_turn_22 rfl
theorem x_64_23 {ls st : List Value} {h : Hp}  : ex 64 23 ls (st) h = gA (ldA ls 0) 64 24 ls st h := x_aload_n hc_64 dX7_turn_23 rfl rfl
theorem x_64_24 {ls st : List Value} {h : Hp} {k : Nat} : ex 64 24 ls (.ref k :: st) h = if kd k = 7 then ex 64 27 ls (vl h k 1 :: st) h else none := x_getf hc_64 dX7_turn_24 rfl fr_7_17
theorem x_64_27 {ls st : List Value} {h : Hp}  : ex 64 27 ls (st) h = gI (ldI ls 1) 64 28 ls st h := x_iload_n hc_64 dX7_turn_27 rfl rfl
theorem x_64_28 {ls st : List Value} {h : Hp} {k : Nat} {x : Int32} : ex 64 28 ls (.int x :: .ref k :: st) h = if (11 ≤ kd k ∧ kd k ≤ 14) ∧ x.toNatClampNeg < ln k ∧ 0 ≤ x then gA (rf k x.toNatClampNeg) 64 29 ls st h else none := x_aald hc_64 dX7_turn_28 rfl
theorem x_64_29 {ls st : List Value} {h : Hp} {x : Nat} : ex 64 29 ls (.ref x :: st) h = ex 64 30 (ls.set 3 (.ref x)) st h := x_astore_n hc_64 dX7_turn_29 rfl rfl (by decide)
theorem x_64_30 {ls st : List Value} {h : Hp}  : ex 64 30 ls (st) h = gA (ldA ls 3) 64 31 ls st h := x_aload_n hc_64 dX7_turn_30 rfl rfl
theorem x_64_31 {ls st : List Value} {h : Hp} {k : Nat}  : ex 64 31 ls (.ref k :: st) h = if kd k = 0 ∧ st.length ≤ 4 then gC (ex 1 0 [.ref k] [] h) 64 34 ls st else none := x_callV (as := []) hc_64 dX7_turn_31 rfl mr_7_157 rfl rfl rfl (by decide) (by decide)
theorem x_64_34 {ls st : List Value} {h : Hp} {x : Int32} : ex 64 34 ls (.int x :: st) h = if x = 0 then ex 64 45 ls st h else ex 64 37 ls st h := x_if_eq hc_64 dX7_turn_34 rfl (by decide)
theorem x_64_37 {ls st : List Value} {h : Hp}  : ex 64 37 ls (st) h = gA (ldA ls 3) 64 38 ls st h := x_aload_n hc_64 dX7_turn_37 rfl rfl
theorem x_64_38 {ls st : List Value} {h : Hp}  : ex 64 38 ls (st) h = gI (ldI ls 2) 64 39 ls st h := x_iload_n hc_64 dX7_turn_38 rfl rfl
theorem x_64_39 {ls st : List Value} {h : Hp} {k : Nat} {a0 : Int32} : ex 64 39 ls (.int a0 :: .ref k :: st) h = if kd k = 0 ∧ st.length ≤ 4 then gC (ex 3 0 [.ref k, .int a0] [] h) 64 42 ls st else none := x_callV (as := [.int a0]) hc_64 dX7_turn_39 rfl mr_7_189 rfl rfl rfl (by decide) (by decide)
theorem x_64_42 {ls st : List Value} {h : Hp} {x : Int32} : ex 64 42 ls (.int x :: st) h = if x = 0 then ex 64 45 ls st h else ex 64 52 ls st h := x_if_ne hc_64 dX7_turn_42 rfl (by decide)
theorem x_64_45 {ls st : List Value} {h : Hp}  : ex 64 45 ls (st) h = gA (ldA ls 0) 64 46 ls st h := x_aload_n hc_64 dX7_turn_45 rfl rfl
theorem x_64_46 {ls st : List Value} {h : Hp}  : ex 64 46 ls (st) h = ex 64 48 ls (.int (-7) :: st) h := x_bipush hc_64 dX7_turn_46 rfl (by decide)
theorem x_64_48 {ls st : List Value} {h : Hp} {k : Nat} {a0 : Int32} : ex 64 48 ls (.int a0 :: .ref k :: st) h = if kd k = 7 ∧ st.length ≤ 4 then gC (ex 45 0 [.ref k, .int a0] [] h) 64 51 ls st else none := x_callV (as := [.int a0]) hc_64 dX7_turn_48 rfl mr_7_104 rfl rfl rfl (by decide) (by decide)
theorem x_64_51 {ls : List Value} {h : Hp} {v : Int32} : ex 64 51 ls [.int v] h = some (some (.int v), h) := x_iret hc_64 dX7_turn_51 rfl
theorem x_64_52 {ls st : List Value} {h : Hp}  : ex 64 52 ls (st) h = gA (ldA ls 3) 64 53 ls st h := x_aload_n hc_64 dX7_turn_52 rfl rfl
theorem x_64_53 {ls st : List Value} {h : Hp}  : ex 64 53 ls (st) h = gI (ldI ls 2) 64 54 ls st h := x_iload_n hc_64 dX7_turn_53 rfl rfl
theorem x_64_54 {ls st : List Value} {h : Hp} {k : Nat} {x : Int32} : ex 64 54 ls (.int x :: .ref k :: st) h = if kd k = 0 then ex 64 57 ls st (hu h k 7 x) else none := x_putf hc_64 dX7_turn_54 rfl fr_7_203 (by decide)
theorem x_64_57 {ls st : List Value} {h : Hp}  : ex 64 57 ls (st) h = gA (ldA ls 0) 64 58 ls st h := x_aload_n hc_64 dX7_turn_57 rfl rfl
theorem x_64_58 {ls st : List Value} {h : Hp}  : ex 64 58 ls (st) h = gA (ldA ls 3) 64 59 ls st h := x_aload_n hc_64 dX7_turn_58 rfl rfl
theorem x_64_59 {ls st : List Value} {h : Hp} {k : Nat} {a0 : Nat} : ex 64 59 ls (.ref a0 :: .ref k :: st) h = if kd k = 7 ∧ st.length ≤ 4 then gC (ex 63 0 [.ref k, .ref a0, .null, .null, .null] [] h) 64 62 ls st else none := x_callV (as := [.ref a0]) hc_64 dX7_turn_59 rfl mr_7_199 rfl rfl rfl (by decide) (by decide)
theorem x_64_62 {ls : List Value} {h : Hp} {v : Int32} : ex 64 62 ls [.int v] h = some (some (.int v), h) := x_iret hc_64 dX7_turn_62 rfl
theorem x_65_0 {ls st : List Value} {h : Hp}  : ex 65 0 ls (st) h = gA (ldA ls 0) 65 1 ls st h := x_aload_n hc_65 dX7_late_0 rfl rfl
theorem x_65_1 {ls st : List Value} {h : Hp}  : ex 65 1 ls (st) h = gI (ldI ls 1) 65 2 ls st h := x_iload_n hc_65 dX7_late_1 rfl rfl
theorem x_65_2 {ls st : List Value} {h : Hp} {k : Nat} {a0 : Int32} : ex 65 2 ls (.int a0 :: .ref k :: st) h = if kd k = 7 ∧ st.length ≤ 4 then gC (ex 47 0 [.ref k, .int a0] [] h) 65 5 ls st else none := x_callV (as := [.int a0]) hc_65 dX7_late_2 rfl mr_7_108 rfl rfl rfl (by decide) (by decide)
theorem x_65_5 {ls st : List Value} {h : Hp} {x : Int32} : ex 65 5 ls (.int x :: st) h = if x = 0 then ex 65 8 ls st h else ex 65 15 ls st h := x_if_ne hc_65 dX7_late_5 rfl (by decide)
theorem x_65_8 {ls st : List Value} {h : Hp}  : ex 65 8 ls (st) h = gA (ldA ls 0) 65 9 ls st h := x_aload_n hc_65 dX7_late_8 rfl rfl
theorem x_65_9 {ls st : List Value} {h : Hp}  : ex 65 9 ls (st) h = ex 65 11 ls (.int (-3) :: st) h := x_bipush hc_65 dX7_late_9 rfl (by decide)
theorem x_65_11 {ls st : List Value} {h : Hp} {k : Nat} {a0 : Int32} : ex 65 11 ls (.int a0 :: .ref k :: st) h = if kd k = 7 ∧ st.length ≤ 4 then gC (ex 45 0 [.ref k, .int a0] [] h) 65 14 ls st else none := x_callV (as := [.int a0]) hc_65 dX7_late_11 rfl mr_7_104 rfl rfl rfl (by decide) (by decide)
theorem x_65_14 {ls : List Value} {h : Hp} {v : Int32} : ex 65 14 ls [.int v] h = some (some (.int v), h) := x_iret hc_65 dX7_late_14 rfl
theorem x_65_15 {ls st : List Value} {h : Hp}  : ex 65 15 ls (st) h = gI (ldI ls 2) 65 16 ls st h := x_iload_n hc_65 dX7_late_15 rfl rfl
theorem x_65_16 {ls st : List Value} {h : Hp}  : ex 65 16 ls (st) h = ex 65 17 ls (.int (0) :: st) h := x_iconst hc_65 dX7_late_16 rfl (by decide)
theorem x_65_17 {ls st : List Value} {h : Hp}  : ex 65 17 ls (st) h = ex 65 19 ls (.int (48) :: st) h := x_bipush hc_65 dX7_late_17 rfl (by decide)
theorem x_65_19 {ls st : List Value} {h : Hp} {a0 : Int32} {a1 : Int32} {a2 : Int32} : ex 65 19 ls (.int a2 :: .int a1 :: .int a0 :: st) h = if st.length ≤ 4 then gC (ex 44 0 [.int a0, .int a1, .int a2] [] h) 65 22 ls st else none := x_callS (as := [.int a0, .int a1, .int a2]) hc_65 dX7_late_19 rfl mr_7_100 rfl rfl rfl (by decide)
theorem x_65_22 {ls st : List Value} {h : Hp} {x : Int32} : ex 65 22 ls (.int x :: st) h = if x = 0 then ex 65 25 ls st h else ex 65 32 ls st h := x_if_ne hc_65 dX7_late_22 rfl (by decide)
theorem x_65_25 {ls st : List Value} {h : Hp}  : ex 65 25 ls (st) h = gA (ldA ls 0) 65 26 ls st h := x_aload_n hc_65 dX7_late_25 rfl rfl
theorem x_65_26 {ls st : List Value} {h : Hp}  : ex 65 26 ls (st) h = ex 65 28 ls (.int (-7) :: st) h := x_bipush hc_65 dX7_late_26 rfl (by decide)
theorem x_65_28 {ls st : List Value} {h : Hp} {k : Nat} {a0 : Int32} : ex 65 28 ls (.int a0 :: .ref k :: st) h = if kd k = 7 ∧ st.length ≤ 4 then gC (ex 45 0 [.ref k, .int a0] [] h) 65 31 ls st else none := x_callV (as := [.int a0]) hc_65 dX7_late_28 rfl mr_7_104 rfl rfl rfl (by decide) (by decide)
theorem x_65_31 {ls : List Value} {h : Hp} {v : Int32} : ex 65 31 ls [.int v] h = some (some (.int v), h) := x_iret hc_65 dX7_late_31 rfl
theorem x_65_32 {ls st : List Value} {h : Hp}  : ex 65 32 ls (st) h = gA (ldA ls 0) 65 33 ls st h := x_aload_n hc_65 dX7_late_32 rfl rfl
theorem x_65_33 {ls st : List Value} {h : Hp} {k : Nat} : ex 65 33 ls (.ref k :: st) h = if kd k = 7 then ex 65 36 ls (vl h k 0 :: st) h else none := x_getf hc_65 dX7_late_33 rfl fr_7_11
theorem x_65_36 {ls st : List Value} {h : Hp}  : ex 65 36 ls (st) h = gI (ldI ls 1) 65 37 ls st h := x_iload_n hc_65 dX7_late_36 rfl rfl
theorem x_65_37 {ls st : List Value} {h : Hp} {k : Nat} {x : Int32} : ex 65 37 ls (.int x :: .ref k :: st) h = if (11 ≤ kd k ∧ kd k ≤ 14) ∧ x.toNatClampNeg < ln k ∧ 0 ≤ x then gA (rf k x.toNatClampNeg) 65 38 ls st h else none := x_aald hc_65 dX7_late_37 rfl
theorem x_65_38 {ls st : List Value} {h : Hp} {k : Nat} : ex 65 38 ls (.ref k :: st) h = if kd k = 4 then ex 65 41 ls (vl h k 6 :: st) h else none := x_getf hc_65 dX7_late_38 rfl fr_7_192
theorem x_65_41 {ls st : List Value} {h : Hp} {x : Int32} : ex 65 41 ls (.int x :: st) h = ex 65 42 (ls.set 3 (.int x)) st h := x_istore_n hc_65 dX7_late_41 rfl rfl (by decide)
theorem x_65_42 {ls st : List Value} {h : Hp}  : ex 65 42 ls (st) h = gA (ldA ls 0) 65 43 ls st h := x_aload_n hc_65 dX7_late_42 rfl rfl
theorem x_65_43 {ls st : List Value} {h : Hp} {k : Nat} : ex 65 43 ls (.ref k :: st) h = if kd k = 7 then ex 65 46 ls (vl h k 0 :: st) h else none := x_getf hc_65 dX7_late_43 rfl fr_7_11
theorem x_65_46 {ls st : List Value} {h : Hp}  : ex 65 46 ls (st) h = gI (ldI ls 1) 65 47 ls st h := x_iload_n hc_65 dX7_late_46 rfl rfl
theorem x_65_47 {ls st : List Value} {h : Hp} {k : Nat} {x : Int32} : ex 65 47 ls (.int x :: .ref k :: st) h = if (11 ≤ kd k ∧ kd k ≤ 14) ∧ x.toNatClampNeg < ln k ∧ 0 ≤ x then gA (rf k x.toNatClampNeg) 65 48 ls st h else none := x_aald hc_65 dX7_late_47 rfl
theorem x_65_48 {ls st : List Value} {h : Hp}  : ex 65 48 ls (st) h = gI (ldI ls 2) 65 49 ls st h := x_iload_n hc_65 dX7_late_48 rfl rfl
theorem x_65_49 {ls st : List Value} {h : Hp} {k : Nat} {x : Int32} : ex 65 49 ls (.int x :: .ref k :: st) h = if kd k = 4 then ex 65 52 ls st (hu h k 6 x) else none := x_putf hc_65 dX7_late_49 rfl fr_7_192 (by decide)
theorem x_65_52 {ls st : List Value} {h : Hp}  : ex 65 52 ls (st) h = gI (ldI ls 3) 65 53 ls st h := x_iload_n hc_65 dX7_late_52 rfl rfl
theorem x_65_53 {ls : List Value} {h : Hp} {v : Int32} : ex 65 53 ls [.int v] h = some (some (.int v), h) := x_iret hc_65 dX7_late_53 rfl
theorem x_66_0 {ls st : List Value} {h : Hp}  : ex 66 0 ls (st) h = gA (ldA ls 0) 66 1 ls st h := x_aload_n hc_66 dX7_look_0 rfl rfl
theorem x_66_1 {ls st : List Value} {h : Hp}  : ex 66 1 ls (st) h = gI (ldI ls 1) 66 2 ls st h := x_iload_n hc_66 dX7_look_1 rfl rfl
theorem x_66_2 {ls st : List Value} {h : Hp} {k : Nat} {a0 : Int32} : ex 66 2 ls (.int a0 :: .ref k :: st) h = if kd k = 7 ∧ st.length ≤ 4 then gC (ex 58 0 [.ref k, .int a0] [] h) 66 5 ls st else none := x_callV (as := [.int a0]) hc_66 dX7_look_2 rfl mr_7_148 rfl rfl rfl (by decide) (by decide)
theorem x_66_5 {ls st : List Value} {h : Hp} {x : Int32} : ex 66 5 ls (.int x :: st) h = if x = 0 then ex 66 8 ls st h else ex 66 15 ls st h := x_if_ne hc_66 dX7_look_5 rfl (by decide)
theorem x_66_8 {ls st : List Value} {h : Hp}  : ex 66 8 ls (st) h = gA (ldA ls 0) 66 9 ls st h := x_aload_n hc_66 dX7_look_8 rfl rfl
theorem x_66_9 {ls st : List Value} {h : Hp}  : ex 66 9 ls (st) h = ex 66 11 ls (.int (-3) :: st) h := x_bipush hc_66 dX7_look_9 rfl (by decide)
theorem x_66_11 {ls st : List Value} {h : Hp} {k : Nat} {a0 : Int32} : ex 66 11 ls (.int a0 :: .ref k :: st) h = if kd k = 7 ∧ st.length ≤ 4 then gC (ex 45 0 [.ref k, .int a0] [] h) 66 14 ls st else none := x_callV (as := [.int a0]) hc_66 dX7_look_11 rfl mr_7_104 rfl rfl rfl (by decide) (by decide)
theorem x_66_14 {ls : List Value} {h : Hp} {v : Int32} : ex 66 14 ls [.int v] h = some (some (.int v), h) := x_iret hc_66 dX7_look_14 rfl
theorem x_66_15 {ls st : List Value} {h : Hp}  : ex 66 15 ls (st) h = gA (ldA ls 0) 66 16 ls st h := x_aload_n hc_66 dX7_look_15 rfl rfl
theorem x_66_16 {ls st : List Value} {h : Hp} {k : Nat} : ex 66 16 ls (.ref k :: st) h = if kd k = 7 then ex 66 19 ls (vl h k 1 :: st) h else none := x_getf hc_66 dX7_look_16 rfl fr_7_17
theorem x_66_19 {ls st : List Value} {h : Hp}  : ex 66 19 ls (st) h = gI (ldI ls 1) 66 20 ls st h := x_iload_n hc_66 dX7_look_19 rfl rfl
theorem x_66_20 {ls st : List Value} {h : Hp} {k : Nat} {x : Int32} : ex 66 20 ls (.int x :: .ref k :: st) h = if (11 ≤ kd k ∧ kd k ≤ 14) ∧ x.toNatClampNeg < ln k ∧ 0 ≤ x then gA (rf k x.toNatClampNeg) 66 21 ls st h else none := x_aald hc_66 dX7_look_20 rfl
theorem x_66_21 {ls st : List Value} {h : Hp} {x : Nat} : ex 66 21 ls (.ref x :: st) h = ex 66 22 (ls.set 3 (.ref x)) st h := x_astore_n hc_66 dX7_look_21 rfl rfl (by decide)
theorem x_66_22 {ls st : List Value} {h : Hp}  : ex 66 22 ls (st) h = gI (ldI ls 2) 66 23 ls st h := x_iload_n hc_66 dX7_look_22 rfl rfl
theorem x_66_23 {ls st : List Value} {h : Hp} {x : Int32} : ex 66 23 ls (.int x :: st) h = if x = 0 then ex 66 68 ls st h else if x = 1 then ex 66 73 ls st h else if x = 2 then ex 66 78 ls st h else if x = 3 then ex 66 83 ls st h else if x = 4 then ex 66 88 ls st h else if x = 5 then ex 66 93 ls st h else if x = 6 then ex 66 98 ls st h else if x = 7 then ex 66 103 ls st h else ex 66 116 ls st h := by
  rw [x_tbl hc_66 dX7_look_23]
  by_cases h0 : x = 0
  · subst h0; rfl
  by_cases h1 : x = 1
  · subst h1; rfl
  by_cases h2 : x = 2
  · subst h2; rfl
  by_cases h3 : x = 3
  · subst h3; rfl
  by_cases h4 : x = 4
  · subst h4; rfl
  by_cases h5 : x = 5
  · subst h5; rfl
  by_cases h6 : x = 6
  · subst h6; rfl
  by_cases h7 : x = 7
  · subst h7; rfl
  have hz : x.toInt < 0 ∨ 7 < x.toInt := by
    have e0 := lv_neT (a := 0) h0 (by decide)
    have e1 := lv_neT (a := 1) h1 (by decide)
    have e2 := lv_neT (a := 2) h2 (by decide)
    have e3 := lv_neT (a := 3) h3 (by decide)
    have e4 := lv_neT (a := 4) h4 (by decide)
    have e5 := lv_neT (a := 5) h5 (by decide)
    have e6 := lv_neT (a := 6) h6 (by decide)
    have e7 := lv_neT (a := 7) h7 (by decide)
    omega
  rw [if_pos hz, if_neg h0, if_neg h1, if_neg h2, if_neg h3, if_neg h4, if_neg h5, if_neg h6, if_neg h7]
  rfl
theorem x_66_68 {ls st : List Value} {h : Hp}  : ex 66 68 ls (st) h = gA (ldA ls 3) 66 69 ls st h := x_aload_n hc_66 dX7_look_68 rfl rfl
theorem x_66_69 {ls st : List Value} {h : Hp} {k : Nat} : ex 66 69 ls (.ref k :: st) h = if kd k = 0 then ex 66 72 ls (vl h k 6 :: st) h else none := x_getf hc_66 dX7_look_69 rfl fr_7_179
theorem x_66_72 {ls : List Value} {h : Hp} {v : Int32} : ex 66 72 ls [.int v] h = some (some (.int v), h) := x_iret hc_66 dX7_look_72 rfl
theorem x_66_73 {ls st : List Value} {h : Hp}  : ex 66 73 ls (st) h = gA (ldA ls 3) 66 74 ls st h := x_aload_n hc_66 dX7_look_73 rfl rfl
theorem x_66_74 {ls st : List Value} {h : Hp} {k : Nat} : ex 66 74 ls (.ref k :: st) h = if kd k = 0 then ex 66 77 ls (vl h k 7 :: st) h else none := x_getf hc_66 dX7_look_74 rfl fr_7_203
theorem x_66_77 {ls : List Value} {h : Hp} {v : Int32} : ex 66 77 ls [.int v] h = some (some (.int v), h) := x_iret hc_66 dX7_look_77 rfl
theorem x_66_78 {ls st : List Value} {h : Hp}  : ex 66 78 ls (st) h = gA (ldA ls 3) 66 79 ls st h := x_aload_n hc_66 dX7_look_78 rfl rfl
theorem x_66_79 {ls st : List Value} {h : Hp} {k : Nat} : ex 66 79 ls (.ref k :: st) h = if kd k = 0 then ex 66 82 ls (vl h k 8 :: st) h else none := x_getf hc_66 dX7_look_79 rfl fr_7_206
theorem x_66_82 {ls : List Value} {h : Hp} {v : Int32} : ex 66 82 ls [.int v] h = some (some (.int v), h) := x_iret hc_66 dX7_look_82 rfl
theorem x_66_83 {ls st : List Value} {h : Hp}  : ex 66 83 ls (st) h = gA (ldA ls 3) 66 84 ls st h := x_aload_n hc_66 dX7_look_83 rfl rfl
theorem x_66_84 {ls st : List Value} {h : Hp} {k : Nat} : ex 66 84 ls (.ref k :: st) h = if kd k = 0 then ex 66 87 ls (vl h k 9 :: st) h else none := x_getf hc_66 dX7_look_84 rfl fr_7_209
theorem x_66_87 {ls : List Value} {h : Hp} {v : Int32} : ex 66 87 ls [.int v] h = some (some (.int v), h) := x_iret hc_66 dX7_look_87 rfl
theorem x_66_88 {ls st : List Value} {h : Hp}  : ex 66 88 ls (st) h = gA (ldA ls 3) 66 89 ls st h := x_aload_n hc_66 dX7_look_88 rfl rfl
theorem x_66_89 {ls st : List Value} {h : Hp} {k : Nat} : ex 66 89 ls (.ref k :: st) h = if kd k = 0 then ex 66 92 ls (vl h k 4 :: st) h else none := x_getf hc_66 dX7_look_89 rfl fr_7_177
theorem x_66_92 {ls : List Value} {h : Hp} {v : Int32} : ex 66 92 ls [.int v] h = some (some (.int v), h) := x_iret hc_66 dX7_look_92 rfl
theorem x_66_93 {ls st : List Value} {h : Hp}  : ex 66 93 ls (st) h = gA (ldA ls 3) 66 94 ls st h := x_aload_n hc_66 dX7_look_93 rfl rfl
theorem x_66_94 {ls st : List Value} {h : Hp} {k : Nat} : ex 66 94 ls (.ref k :: st) h = if kd k = 0 then ex 66 97 ls (vl h k 5 :: st) h else none := x_getf hc_66 dX7_look_94 rfl fr_7_186
theorem x_66_97 {ls : List Value} {h : Hp} {v : Int32} : ex 66 97 ls [.int v] h = some (some (.int v), h) := x_iret hc_66 dX7_look_97 rfl
theorem x_66_98 {ls st : List Value} {h : Hp}  : ex 66 98 ls (st) h = gA (ldA ls 3) 66 99 ls st h := x_aload_n hc_66 dX7_look_98 rfl rfl
theorem x_66_99 {ls st : List Value} {h : Hp} {k : Nat} : ex 66 99 ls (.ref k :: st) h = if kd k = 0 then ex 66 102 ls (vl h k 10 :: st) h else none := x_getf hc_66 dX7_look_99 rfl fr_7_212
theorem x_66_102 {ls : List Value} {h : Hp} {v : Int32} : ex 66 102 ls [.int v] h = some (some (.int v), h) := x_iret hc_66 dX7_look_102 rfl
theorem x_66_103 {ls st : List Value} {h : Hp}  : ex 66 103 ls (st) h = gA (ldA ls 3) 66 104 ls st h := x_aload_n hc_66 dX7_look_103 rfl rfl
theorem x_66_104 {ls st : List Value} {h : Hp} {k : Nat} : ex 66 104 ls (.ref k :: st) h = if kd k = 0 then ex 66 107 ls (vl h k 12 :: st) h else none := x_getf hc_66 dX7_look_104 rfl fr_7_215
theorem x_66_107 {ls st : List Value} {h : Hp} {x : Int32} : ex 66 107 ls (.int x :: st) h = if x = 0 then ex 66 114 ls st h else ex 66 110 ls st h := x_if_eq hc_66 dX7_look_107 rfl (by decide)
theorem x_66_110 {ls st : List Value} {h : Hp}  : ex 66 110 ls (st) h = ex 66 111 ls (.int (1) :: st) h := x_iconst hc_66 dX7_look_110 rfl (by decide)
theorem x_66_111 {ls st : List Value} {h : Hp}  : ex 66 111 ls (st) h = ex 66 115 ls st h := x_goto hc_66 dX7_look_111 (by decide)
theorem x_66_114 {ls st : List Value} {h : Hp}  : ex 66 114 ls (st) h = ex 66 115 ls (.int (0) :: st) h := x_iconst hc_66 dX7_look_114 rfl (by decide)
theorem x_66_115 {ls : List Value} {h : Hp} {v : Int32} : ex 66 115 ls [.int v] h = some (some (.int v), h) := x_iret hc_66 dX7_look_115 rfl
theorem x_66_116 {ls st : List Value} {h : Hp}  : ex 66 116 ls (st) h = gA (ldA ls 0) 66 117 ls st h := x_aload_n hc_66 dX7_look_116 rfl rfl
theorem x_66_117 {ls st : List Value} {h : Hp}  : ex 66 117 ls (st) h = ex 66 119 ls (.int (-7) :: st) h := x_bipush hc_66 dX7_look_117 rfl (by decide)
theorem x_66_119 {ls st : List Value} {h : Hp} {k : Nat} {a0 : Int32} : ex 66 119 ls (.int a0 :: .ref k :: st) h = if kd k = 7 ∧ st.length ≤ 4 then gC (ex 45 0 [.ref k, .int a0] [] h) 66 122 ls st else none := x_callV (as := [.int a0]) hc_66 dX7_look_119 rfl mr_7_104 rfl rfl rfl (by decide) (by decide)
theorem x_66_122 {ls : List Value} {h : Hp} {v : Int32} : ex 66 122 ls [.int v] h = some (some (.int v), h) := x_iret hc_66 dX7_look_122 rfl
theorem x_67_0 {ls st : List Value} {h : Hp}  : ex 67 0 ls (st) h = gI (ldI ls 2) 67 1 ls st h := x_iload_n hc_67 dX7_feed_0 rfl rfl
theorem x_67_1 {ls st : List Value} {h : Hp} {x : Int32} : ex 67 1 ls (.int x :: st) h = if x < 0 then ex 67 4 ls st h else ex 67 11 ls st h := x_if_ge hc_67 dX7_feed_1 rfl (by decide)
theorem x_67_4 {ls st : List Value} {h : Hp}  : ex 67 4 ls (st) h = gA (ldA ls 0) 67 5 ls st h := x_aload_n hc_67 dX7_feed_4 rfl rfl
theorem x_67_5 {ls st : List Value} {h : Hp}  : ex 67 5 ls (st) h = ex 67 7 ls (.int (-4) :: st) h := x_bipush hc_67 dX7_feed_5 rfl (by decide)
theorem x_67_7 {ls st : List Value} {h : Hp} {k : Nat} {a0 : Int32} : ex 67 7 ls (.int a0 :: .ref k :: st) h = if kd k = 7 ∧ st.length ≤ 4 then gC (ex 45 0 [.ref k, .int a0] [] h) 67 10 ls st else none := x_callV (as := [.int a0]) hc_67 dX7_feed_7 rfl mr_7_104 rfl rfl rfl (by decide) (by decide)
theorem x_67_10 {ls : List Value} {h : Hp} {v : Int32} : ex 67 10 ls [.int v] h = some (some (.int v), h) := x_iret hc_67 dX7_feed_10 rfl
theorem x_67_11 {ls st : List Value} {h : Hp}  : ex 67 11 ls (st) h = gI (ldI ls 2) 67 12 ls st h := x_iload_n hc_67 dX7_feed_11 rfl rfl
theorem x_67_12 {ls st : List Value} {h : Hp}  : ex 67 12 ls (st) h = ex 67 13 ls (.int (4) :: st) h := x_iconst hc_67 dX7_feed_12 rfl (by decide)
theorem x_67_13 {ls st : List Value} {h : Hp} {x z : Int32} : ex 67 13 ls (.int z :: .int x :: st) h = if z < x then ex 67 16 ls st h else ex 67 23 ls st h := x_icmp_le hc_67 dX7_feed_13 rfl (by decide)
theorem x_67_16 {ls st : List Value} {h : Hp}  : ex 67 16 ls (st) h = gA (ldA ls 0) 67 17 ls st h := x_aload_n hc_67 dX7_feed_16 rfl rfl
theorem x_67_17 {ls st : List Value} {h : Hp}  : ex 67 17 ls (st) h = ex 67 19 ls (.int (-7) :: st) h := x_bipush hc_67 dX7_feed_17 rfl (by decide)
theorem x_67_19 {ls st : List Value} {h : Hp} {k : Nat} {a0 : Int32} : ex 67 19 ls (.int a0 :: .ref k :: st) h = if kd k = 7 ∧ st.length ≤ 4 then gC (ex 45 0 [.ref k, .int a0] [] h) 67 22 ls st else none := x_callV (as := [.int a0]) hc_67 dX7_feed_19 rfl mr_7_104 rfl rfl rfl (by decide) (by decide)
theorem x_67_22 {ls : List Value} {h : Hp} {v : Int32} : ex 67 22 ls [.int v] h = some (some (.int v), h) := x_iret hc_67 dX7_feed_22 rfl
theorem x_67_23 {ls st : List Value} {h : Hp}  : ex 67 23 ls (st) h = gA (ldA ls 0) 67 24 ls st h := x_aload_n hc_67 dX7_feed_23 rfl rfl
theorem x_67_24 {ls st : List Value} {h : Hp} {k : Nat} : ex 67 24 ls (.ref k :: st) h = if kd k = 7 then ex 67 27 ls (vl h k 3 :: st) h else none := x_getf hc_67 dX7_feed_24 rfl fr_7_30
theorem x_67_27 {ls st : List Value} {h : Hp} {k : Nat} : ex 67 27 ls (.ref k :: st) h = if kd k = 5 then ex 67 30 ls (vl h k 1 :: st) h else none := x_getf hc_67 dX7_feed_27 rfl fr_7_218
theorem x_67_30 {ls st : List Value} {h : Hp}  : ex 67 30 ls (st) h = gI (ldI ls 2) 67 31 ls st h := x_iload_n hc_67 dX7_feed_30 rfl rfl
theorem x_67_31 {ls st : List Value} {h : Hp} {a b : Int32} : ex 67 31 ls (.int b :: .int a :: st) h = ex 67 32 ls (.int (a + b) :: st) h := x_iadd hc_67 dX7_feed_31 rfl
theorem x_67_32 {ls st : List Value} {h : Hp}  : ex 67 32 ls (st) h = ex 67 34 ls (.int (80) :: st) h := x_bipush hc_67 dX7_feed_32 rfl (by decide)
theorem x_67_34 {ls st : List Value} {h : Hp} {x z : Int32} : ex 67 34 ls (.int z :: .int x :: st) h = if z < x then ex 67 37 ls st h else ex 67 44 ls st h := x_icmp_le hc_67 dX7_feed_34 rfl (by decide)
theorem x_67_37 {ls st : List Value} {h : Hp}  : ex 67 37 ls (st) h = gA (ldA ls 0) 67 38 ls st h := x_aload_n hc_67 dX7_feed_37 rfl rfl
theorem x_67_38 {ls st : List Value} {h : Hp}  : ex 67 38 ls (st) h = ex 67 40 ls (.int (-8) :: st) h := x_bipush hc_67 dX7_feed_38 rfl (by decide)
theorem x_67_40 {ls st : List Value} {h : Hp} {k : Nat} {a0 : Int32} : ex 67 40 ls (.int a0 :: .ref k :: st) h = if kd k = 7 ∧ st.length ≤ 4 then gC (ex 45 0 [.ref k, .int a0] [] h) 67 43 ls st else none := x_callV (as := [.int a0]) hc_67 dX7_feed_40 rfl mr_7_104 rfl rfl rfl (by decide) (by decide)
theorem x_67_43 {ls : List Value} {h : Hp} {v : Int32} : ex 67 43 ls [.int v] h = some (some (.int v), h) := x_iret hc_67 dX7_feed_43 rfl
theorem x_67_44 {ls st : List Value} {h : Hp}  : ex 67 44 ls (st) h = gI (ldI ls 2) 67 45 ls st h := x_iload_n hc_67 dX7_feed_44 rfl rfl
theorem x_67_45 {ls st : List Value} {h : Hp}  : ex 67 45 ls (st) h = ex 67 46 ls (.int (1) :: st) h := x_iconst hc_67 dX7_feed_45 rfl (by decide)
theorem x_67_46 {ls st : List Value} {h : Hp} {a b : Int32} : ex 67 46 ls (.int b :: .int a :: st) h = ex 67 47 ls (.int (a - b) :: st) h := x_isub hc_67 dX7_feed_46 rfl
theorem x_67_47 {ls st : List Value} {h : Hp} {x : Int32} : ex 67 47 ls (.int x :: st) h = ex 67 48 (ls.set 3 (.int x)) st h := x_istore_n hc_67 dX7_feed_47 rfl rfl (by decide)
theorem x_67_48 {ls st : List Value} {h : Hp}  : ex 67 48 ls (st) h = gI (ldI ls 3) 67 49 ls st h := x_iload_n hc_67 dX7_feed_48 rfl rfl
theorem x_67_49 {ls st : List Value} {h : Hp} {x : Int32} : ex 67 49 ls (.int x :: st) h = if x < 0 then ex 67 96 ls st h else ex 67 52 ls st h := x_if_lt hc_67 dX7_feed_49 rfl (by decide)
theorem x_67_52 {ls st : List Value} {h : Hp}  : ex 67 52 ls (st) h = gA (ldA ls 0) 67 53 ls st h := x_aload_n hc_67 dX7_feed_52 rfl rfl
theorem x_67_53 {ls st : List Value} {h : Hp} {k : Nat} : ex 67 53 ls (.ref k :: st) h = if kd k = 7 then ex 67 56 ls (vl h k 3 :: st) h else none := x_getf hc_67 dX7_feed_53 rfl fr_7_30
theorem x_67_56 {ls st : List Value} {h : Hp} {k : Nat} : ex 67 56 ls (.ref k :: st) h = if kd k = 5 then ex 67 59 ls (vl h k 0 :: st) h else none := x_getf hc_67 dX7_feed_56 rfl fr_7_221
theorem x_67_59 {ls st : List Value} {h : Hp}  : ex 67 59 ls (st) h = gA (ldA ls 0) 67 60 ls st h := x_aload_n hc_67 dX7_feed_59 rfl rfl
theorem x_67_60 {ls st : List Value} {h : Hp} {k : Nat} : ex 67 60 ls (.ref k :: st) h = if kd k = 7 then ex 67 63 ls (vl h k 3 :: st) h else none := x_getf hc_67 dX7_feed_60 rfl fr_7_30
theorem x_67_63 {ls st : List Value} {h : Hp} {k : Nat} : ex 67 63 ls (.ref k :: st) h = if kd k = 5 then ex 67 66 ls (vl h k 1 :: st) h else none := x_getf hc_67 dX7_feed_63 rfl fr_7_218
theorem x_67_66 {ls st : List Value} {h : Hp}  : ex 67 66 ls (st) h = gI (ldI ls 1) 67 67 ls st h := x_iload_n hc_67 dX7_feed_66 rfl rfl
theorem x_67_67 {ls st : List Value} {h : Hp}  : ex 67 67 ls (st) h = ex 67 69 ls (.int (8) :: st) h := x_bipush hc_67 dX7_feed_67 rfl (by decide)
theorem x_67_69 {ls st : List Value} {h : Hp}  : ex 67 69 ls (st) h = gI (ldI ls 3) 67 70 ls st h := x_iload_n hc_67 dX7_feed_69 rfl rfl
theorem x_67_70 {ls st : List Value} {h : Hp} {a b : Int32} : ex 67 70 ls (.int b :: .int a :: st) h = ex 67 71 ls (.int (a * b) :: st) h := x_imul hc_67 dX7_feed_70 rfl
theorem x_67_71 {ls st : List Value} {h : Hp} {a b : Int32} : ex 67 71 ls (.int b :: .int a :: st) h = ex 67 72 ls (.int (a >>> (b &&& 31)) :: st) h := x_ishr hc_67 dX7_feed_71 rfl
theorem x_67_72 {ls st : List Value} {h : Hp}  : ex 67 72 ls (st) h = ex 67 75 ls (.int (255) :: st) h := x_sipush hc_67 dX7_feed_72 rfl (by decide)
theorem x_67_75 {ls st : List Value} {h : Hp} {a b : Int32} : ex 67 75 ls (.int b :: .int a :: st) h = ex 67 76 ls (.int (a &&& b) :: st) h := x_iand hc_67 dX7_feed_75 rfl
theorem x_67_76 {ls st : List Value} {h : Hp} {k : Nat} {x u : Int32} : ex 67 76 ls (.int u :: .int x :: .ref k :: st) h = if kd k = 9 ∧ x.toNatClampNeg < ln k ∧ 0 ≤ x then ex 67 77 ls st (hu h k x.toNatClampNeg u) else none := x_iast hc_67 dX7_feed_76 rfl
theorem x_67_77 {ls st : List Value} {h : Hp}  : ex 67 77 ls (st) h = gA (ldA ls 0) 67 78 ls st h := x_aload_n hc_67 dX7_feed_77 rfl rfl
theorem x_67_78 {ls st : List Value} {h : Hp} {k : Nat} : ex 67 78 ls (.ref k :: st) h = if kd k = 7 then ex 67 81 ls (vl h k 3 :: st) h else none := x_getf hc_67 dX7_feed_78 rfl fr_7_30
theorem x_67_81i {ls st : List Value} {h : Hp} {u : Int32} : ex 67 81 ls (.int u :: st) h = ex 67 82 ls (.int u :: .int u :: st) h := x_dup_i hc_67 dX7_feed_81 rfl
theorem x_67_81a {ls st : List Value} {h : Hp} {u : Nat} : ex 67 81 ls (.ref u :: st) h = ex 67 82 ls (.ref u :: .ref u :: st) h := x_dup_a hc_67 dX7_feed_81 rfl
theorem x_67_82 {ls st : List Value} {h : Hp} {k : Nat} : ex 67 82 ls (.ref k :: st) h = if kd k = 5 then ex 67 85 ls (vl h k 1 :: st) h else none := x_getf hc_67 dX7_feed_82 rfl fr_7_218
theorem x_67_85 {ls st : List Value} {h : Hp}  : ex 67 85 ls (st) h = ex 67 86 ls (.int (1) :: st) h := x_iconst hc_67 dX7_feed_85 rfl (by decide)
theorem x_67_86 {ls st : List Value} {h : Hp} {a b : Int32} : ex 67 86 ls (.int b :: .int a :: st) h = ex 67 87 ls (.int (a + b) :: st) h := x_iadd hc_67 dX7_feed_86 rfl
theorem x_67_87 {ls st : List Value} {h : Hp} {k : Nat} {x : Int32} : ex 67 87 ls (.int x :: .ref k :: st) h = if kd k = 5 then ex 67 90 ls st (hu h k 1 x) else none := x_putf hc_67 dX7_feed_87 rfl fr_7_218 (by decide)
theorem x_67_90 {ls st : List Value} {h : Hp}  : ex 67 90 ls (st) h = gN (ldI ls 3) 67 93 ls 3 (-1) st h := x_iinc hc_67 dX7_feed_90 rfl (by decide) (by decide)
theorem x_67_93 {ls st : List Value} {h : Hp}  : ex 67 93 ls (st) h = ex 67 48 ls st h := x_goto hc_67 dX7_feed_93 (by decide)
theorem x_67_96 {ls st : List Value} {h : Hp}  : ex 67 96 ls (st) h = gA (ldA ls 0) 67 97 ls st h := x_aload_n hc_67 dX7_feed_96 rfl rfl
theorem x_67_97 {ls st : List Value} {h : Hp} {k : Nat} : ex 67 97 ls (.ref k :: st) h = if kd k = 7 then ex 67 100 ls (vl h k 3 :: st) h else none := x_getf hc_67 dX7_feed_97 rfl fr_7_30
theorem x_67_100 {ls st : List Value} {h : Hp} {k : Nat} : ex 67 100 ls (.ref k :: st) h = if kd k = 5 then ex 67 103 ls (vl h k 1 :: st) h else none := x_getf hc_67 dX7_feed_100 rfl fr_7_218
theorem x_67_103 {ls : List Value} {h : Hp} {v : Int32} : ex 67 103 ls [.int v] h = some (some (.int v), h) := x_iret hc_67 dX7_feed_103 rfl
theorem x_68_0 {ls st : List Value} {h : Hp}  : ex 68 0 ls (st) h = gA (ldA ls 0) 68 1 ls st h := x_aload_n hc_68 dX7_wipe_0 rfl rfl
theorem x_68_1 {ls st : List Value} {h : Hp} {k : Nat} : ex 68 1 ls (.ref k :: st) h = if kd k = 7 then ex 68 4 ls (vl h k 3 :: st) h else none := x_getf hc_68 dX7_wipe_1 rfl fr_7_30
theorem x_68_4 {ls st : List Value} {h : Hp} {k : Nat} : ex 68 4 ls (.ref k :: st) h = if kd k = 5 then ex 68 7 ls (vl h k 1 :: st) h else none := x_getf hc_68 dX7_wipe_4 rfl fr_7_218
theorem x_68_7 {ls st : List Value} {h : Hp} {x : Int32} : ex 68 7 ls (.int x :: st) h = ex 68 8 (ls.set 1 (.int x)) st h := x_istore_n hc_68 dX7_wipe_7 rfl rfl (by decide)
theorem x_68_8 {ls st : List Value} {h : Hp}  : ex 68 8 ls (st) h = gA (ldA ls 0) 68 9 ls st h := x_aload_n hc_68 dX7_wipe_8 rfl rfl
theorem x_68_9 {ls st : List Value} {h : Hp} {k : Nat} : ex 68 9 ls (.ref k :: st) h = if kd k = 7 then ex 68 12 ls (vl h k 3 :: st) h else none := x_getf hc_68 dX7_wipe_9 rfl fr_7_30
theorem x_68_12 {ls st : List Value} {h : Hp}  : ex 68 12 ls (st) h = ex 68 13 ls (.int (0) :: st) h := x_iconst hc_68 dX7_wipe_12 rfl (by decide)
theorem x_68_13 {ls st : List Value} {h : Hp} {k : Nat} {x : Int32} : ex 68 13 ls (.int x :: .ref k :: st) h = if kd k = 5 then ex 68 16 ls st (hu h k 1 x) else none := x_putf hc_68 dX7_wipe_13 rfl fr_7_218 (by decide)
theorem x_68_16 {ls st : List Value} {h : Hp}  : ex 68 16 ls (st) h = gI (ldI ls 1) 68 17 ls st h := x_iload_n hc_68 dX7_wipe_16 rfl rfl
theorem x_68_17 {ls : List Value} {h : Hp} {v : Int32} : ex 68 17 ls [.int v] h = some (some (.int v), h) := x_iret hc_68 dX7_wipe_17 rfl
theorem x_69_0 {ls st : List Value} {h : Hp}  : ex 69 0 ls (st) h = gI (ldI ls 1) 69 1 ls st h := x_iload_n hc_69 dX7_rule_0 rfl rfl
theorem x_69_1 {ls st : List Value} {h : Hp} {x : Int32} : ex 69 1 ls (.int x :: st) h = if x < 0 then ex 69 15 ls st h else ex 69 4 ls st h := x_if_lt hc_69 dX7_rule_1 rfl (by decide)
theorem x_69_4 {ls st : List Value} {h : Hp}  : ex 69 4 ls (st) h = gI (ldI ls 1) 69 5 ls st h := x_iload_n hc_69 dX7_rule_4 rfl rfl
theorem x_69_5 {ls st : List Value} {h : Hp}  : ex 69 5 ls (st) h = gI (ldI ls 2) 69 6 ls st h := x_iload_n hc_69 dX7_rule_5 rfl rfl
theorem x_69_6 {ls st : List Value} {h : Hp} {x z : Int32} : ex 69 6 ls (.int z :: .int x :: st) h = if x < z then ex 69 9 ls st h else ex 69 15 ls st h := x_icmp_ge hc_69 dX7_rule_6 rfl (by decide)
theorem x_69_9 {ls st : List Value} {h : Hp}  : ex 69 9 ls (st) h = gI (ldI ls 2) 69 10 ls st h := x_iload_n hc_69 dX7_rule_9 rfl rfl
theorem x_69_10 {ls st : List Value} {h : Hp}  : ex 69 10 ls (st) h = ex 69 12 ls (.int 100000 :: st) h := x_ldc hc_69 dX7_rule_10 rfl (by decide +kernel)
theorem x_69_12 {ls st : List Value} {h : Hp} {x z : Int32} : ex 69 12 ls (.int z :: .int x :: st) h = if z < x then ex 69 15 ls st h else ex 69 22 ls st h := x_icmp_le hc_69 dX7_rule_12 rfl (by decide)
theorem x_69_15 {ls st : List Value} {h : Hp}  : ex 69 15 ls (st) h = gA (ldA ls 0) 69 16 ls st h := x_aload_n hc_69 dX7_rule_15 rfl rfl
theorem x_69_16 {ls st : List Value} {h : Hp}  : ex 69 16 ls (st) h = ex 69 18 ls (.int (-7) :: st) h := x_bipush hc_69 dX7_rule_16 rfl (by decide)
theorem x_69_18 {ls st : List Value} {h : Hp} {k : Nat} {a0 : Int32} : ex 69 18 ls (.int a0 :: .ref k :: st) h = if kd k = 7 ∧ st.length ≤ 4 then gC (ex 45 0 [.ref k, .int a0] [] h) 69 21 ls st else none := x_callV (as := [.int a0]) hc_69 dX7_rule_18 rfl mr_7_104 rfl rfl rfl (by decide) (by decide)
theorem x_69_21 {ls : List Value} {h : Hp} {v : Int32} : ex 69 21 ls [.int v] h = some (some (.int v), h) := x_iret hc_69 dX7_rule_21 rfl
theorem x_69_22 {ls st : List Value} {h : Hp}  : ex 69 22 ls (st) h = gA (ldA ls 0) 69 23 ls st h := x_aload_n hc_69 dX7_rule_22 rfl rfl
theorem x_69_23 {ls st : List Value} {h : Hp} {k : Nat} : ex 69 23 ls (.ref k :: st) h = if kd k = 7 then ex 69 26 ls (vl h k 13 :: st) h else none := x_getf hc_69 dX7_rule_23 rfl fr_7_83
theorem x_69_26 {ls st : List Value} {h : Hp}  : ex 69 26 ls (st) h = ex 69 28 ls (.int (10) :: st) h := x_bipush hc_69 dX7_rule_26 rfl (by decide)
theorem x_69_28 {ls st : List Value} {h : Hp} {x z : Int32} : ex 69 28 ls (.int z :: .int x :: st) h = if x < z then ex 69 38 ls st h else ex 69 31 ls st h := x_icmp_lt hc_69 dX7_rule_28 rfl (by decide)
theorem x_69_31 {ls st : List Value} {h : Hp}  : ex 69 31 ls (st) h = gA (ldA ls 0) 69 32 ls st h := x_aload_n hc_69 dX7_rule_31 rfl rfl
theorem x_69_32 {ls st : List Value} {h : Hp}  : ex 69 32 ls (st) h = ex 69 34 ls (.int (-8) :: st) h := x_bipush hc_69 dX7_rule_32 rfl (by decide)
theorem x_69_34 {ls st : List Value} {h : Hp} {k : Nat} {a0 : Int32} : ex 69 34 ls (.int a0 :: .ref k :: st) h = if kd k = 7 ∧ st.length ≤ 4 then gC (ex 45 0 [.ref k, .int a0] [] h) 69 37 ls st else none := x_callV (as := [.int a0]) hc_69 dX7_rule_34 rfl mr_7_104 rfl rfl rfl (by decide) (by decide)
theorem x_69_37 {ls : List Value} {h : Hp} {v : Int32} : ex 69 37 ls [.int v] h = some (some (.int v), h) := x_iret hc_69 dX7_rule_37 rfl
theorem x_69_38 {ls st : List Value} {h : Hp}  : ex 69 38 ls (st) h = gA (ldA ls 0) 69 39 ls st h := x_aload_n hc_69 dX7_rule_38 rfl rfl
theorem x_69_39 {ls st : List Value} {h : Hp} {k : Nat} : ex 69 39 ls (.ref k :: st) h = if kd k = 7 then ex 69 42 ls (vl h k 2 :: st) h else none := x_getf hc_69 dX7_rule_39 rfl fr_7_23
theorem x_69_42 {ls st : List Value} {h : Hp}  : ex 69 42 ls (st) h = gA (ldA ls 0) 69 43 ls st h := x_aload_n hc_69 dX7_rule_42 rfl rfl
theorem x_69_43 {ls st : List Value} {h : Hp} {k : Nat} : ex 69 43 ls (.ref k :: st) h = if kd k = 7 then ex 69 46 ls (vl h k 13 :: st) h else none := x_getf hc_69 dX7_rule_43 rfl fr_7_83
theorem x_69_46 {ls st : List Value} {h : Hp} {k : Nat} {x : Int32} : ex 69 46 ls (.int x :: .ref k :: st) h = if (11 ≤ kd k ∧ kd k ≤ 14) ∧ x.toNatClampNeg < ln k ∧ 0 ≤ x then gA (rf k x.toNatClampNeg) 69 47 ls st h else none := x_aald hc_69 dX7_rule_46 rfl
theorem x_69_47 {ls st : List Value} {h : Hp} {x : Nat} : ex 69 47 ls (.ref x :: st) h = ex 69 48 (ls.set 3 (.ref x)) st h := x_astore_n hc_69 dX7_rule_47 rfl rfl (by decide)
theorem x_69_48 {ls st : List Value} {h : Hp}  : ex 69 48 ls (st) h = gA (ldA ls 0) 69 49 ls st h := x_aload_n hc_69 dX7_rule_48 rfl rfl
theorem x_69_49 {ls st : List Value} {h : Hp} {k : Nat} : ex 69 49 ls (.ref k :: st) h = if kd k = 7 then ex 69 52 ls (vl h k 3 :: st) h else none := x_getf hc_69 dX7_rule_49 rfl fr_7_30
theorem x_69_52 {ls st : List Value} {h : Hp}  : ex 69 52 ls (st) h = gA (ldA ls 3) 69 53 ls st h := x_aload_n hc_69 dX7_rule_52 rfl rfl
theorem x_69_53 {ls st : List Value} {h : Hp} {k : Nat} {a0 : Nat} : ex 69 53 ls (.ref a0 :: .ref k :: st) h = if kd k = 5 ∧ st.length ≤ 4 then gC (ex 25 0 [.ref k, .ref a0, .null] [] h) 69 56 ls st else none := x_callV (as := [.ref a0]) hc_69 dX7_rule_53 rfl mr_7_224 rfl rfl rfl (by decide) (by decide)
theorem x_69_56 {ls st : List Value} {h : Hp} {x : Int32} : ex 69 56 ls (.int x :: st) h = ex 69 58 (ls.set 4 (.int x)) st h := x_istore hc_69 dX7_rule_56 rfl (by decide)
theorem x_69_58 {ls st : List Value} {h : Hp}  : ex 69 58 ls (st) h = gI (ldI ls 4) 69 60 ls st h := x_iload hc_69 dX7_rule_58 rfl
theorem x_69_60 {ls st : List Value} {h : Hp}  : ex 69 60 ls (st) h = ex 69 61 ls (.int (-1) :: st) h := x_iconst hc_69 dX7_rule_60 rfl (by decide)
theorem x_69_61 {ls st : List Value} {h : Hp} {x z : Int32} : ex 69 61 ls (.int z :: .int x :: st) h = if x = z then ex 69 70 ls st h else ex 69 64 ls st h := x_icmp_eq hc_69 dX7_rule_61 rfl (by decide)
theorem x_69_64 {ls st : List Value} {h : Hp}  : ex 69 64 ls (st) h = ex 69 66 ls (.int (-10) :: st) h := x_bipush hc_69 dX7_rule_64 rfl (by decide)
theorem x_69_66 {ls st : List Value} {h : Hp}  : ex 69 66 ls (st) h = gI (ldI ls 4) 69 68 ls st h := x_iload hc_69 dX7_rule_66 rfl
theorem x_69_68 {ls st : List Value} {h : Hp} {a b : Int32} : ex 69 68 ls (.int b :: .int a :: st) h = ex 69 69 ls (.int (a - b) :: st) h := x_isub hc_69 dX7_rule_68 rfl
theorem x_69_69 {ls : List Value} {h : Hp} {v : Int32} : ex 69 69 ls [.int v] h = some (some (.int v), h) := x_iret hc_69 dX7_rule_69 rfl
theorem x_69_70 {ls st : List Value} {h : Hp}  : ex 69 70 ls (st) h = gA (ldA ls 3) 69 71 ls st h := x_aload_n hc_69 dX7_rule_70 rfl rfl
theorem x_69_71 {ls st : List Value} {h : Hp}  : ex 69 71 ls (st) h = gI (ldI ls 1) 69 72 ls st h := x_iload_n hc_69 dX7_rule_71 rfl rfl
theorem x_69_72 {ls st : List Value} {h : Hp} {k : Nat} {x : Int32} : ex 69 72 ls (.int x :: .ref k :: st) h = if kd k = 3 then ex 69 75 ls st (hu h k 6 x) else none := x_putf hc_69 dX7_rule_72 rfl fr_7_228 (by decide)
theorem x_69_75 {ls st : List Value} {h : Hp}  : ex 69 75 ls (st) h = gA (ldA ls 3) 69 76 ls st h := x_aload_n hc_69 dX7_rule_75 rfl rfl
theorem x_69_76 {ls st : List Value} {h : Hp}  : ex 69 76 ls (st) h = gI (ldI ls 2) 69 77 ls st h := x_iload_n hc_69 dX7_rule_76 rfl rfl
theorem x_69_77 {ls st : List Value} {h : Hp} {k : Nat} {x : Int32} : ex 69 77 ls (.int x :: .ref k :: st) h = if kd k = 3 then ex 69 80 ls st (hu h k 7 x) else none := x_putf hc_69 dX7_rule_77 rfl fr_7_231 (by decide)
theorem x_69_80 {ls st : List Value} {h : Hp}  : ex 69 80 ls (st) h = gA (ldA ls 0) 69 81 ls st h := x_aload_n hc_69 dX7_rule_80 rfl rfl
theorem x_69_81 {ls st : List Value} {h : Hp} {k : Nat} : ex 69 81 ls (.ref k :: st) h = if kd k = 7 then ex 69 84 ls (vl h k 3 :: st) h else none := x_getf hc_69 dX7_rule_81 rfl fr_7_30
theorem x_69_84 {ls st : List Value} {h : Hp}  : ex 69 84 ls (st) h = ex 69 85 ls (.int (0) :: st) h := x_iconst hc_69 dX7_rule_84 rfl (by decide)
theorem x_69_85 {ls st : List Value} {h : Hp} {k : Nat} {x : Int32} : ex 69 85 ls (.int x :: .ref k :: st) h = if kd k = 5 then ex 69 88 ls st (hu h k 1 x) else none := x_putf hc_69 dX7_rule_85 rfl fr_7_218 (by decide)
theorem x_69_88 {ls st : List Value} {h : Hp}  : ex 69 88 ls (st) h = gA (ldA ls 0) 69 89 ls st h := x_aload_n hc_69 dX7_rule_88 rfl rfl
theorem x_69_89i {ls st : List Value} {h : Hp} {u : Int32} : ex 69 89 ls (.int u :: st) h = ex 69 90 ls (.int u :: .int u :: st) h := x_dup_i hc_69 dX7_rule_89 rfl
theorem x_69_89a {ls st : List Value} {h : Hp} {u : Nat} : ex 69 89 ls (.ref u :: st) h = ex 69 90 ls (.ref u :: .ref u :: st) h := x_dup_a hc_69 dX7_rule_89 rfl
theorem x_69_90 {ls st : List Value} {h : Hp} {k : Nat} : ex 69 90 ls (.ref k :: st) h = if kd k = 7 then ex 69 93 ls (vl h k 13 :: st) h else none := x_getf hc_69 dX7_rule_90 rfl fr_7_83
theorem x_69_93 {ls st : List Value} {h : Hp}  : ex 69 93 ls (st) h = ex 69 94 ls (.int (1) :: st) h := x_iconst hc_69 dX7_rule_93 rfl (by decide)
theorem x_69_94 {ls st : List Value} {h : Hp} {a b : Int32} : ex 69 94 ls (.int b :: .int a :: st) h = ex 69 95 ls (.int (a + b) :: st) h := x_iadd hc_69 dX7_rule_94 rfl
theorem x_69_95 {ls st : List Value} {h : Hp} {k : Nat} {x : Int32} : ex 69 95 ls (.int x :: .ref k :: st) h = if kd k = 7 then ex 69 98 ls st (hu h k 13 x) else none := x_putf hc_69 dX7_rule_95 rfl fr_7_83 (by decide)
theorem x_69_98 {ls st : List Value} {h : Hp}  : ex 69 98 ls (st) h = gA (ldA ls 0) 69 99 ls st h := x_aload_n hc_69 dX7_rule_98 rfl rfl
theorem x_69_99 {ls st : List Value} {h : Hp} {k : Nat} : ex 69 99 ls (.ref k :: st) h = if kd k = 7 then ex 69 102 ls (vl h k 13 :: st) h else none := x_getf hc_69 dX7_rule_99 rfl fr_7_83
theorem x_69_102 {ls st : List Value} {h : Hp}  : ex 69 102 ls (st) h = ex 69 103 ls (.int (1) :: st) h := x_iconst hc_69 dX7_rule_102 rfl (by decide)
theorem x_69_103 {ls st : List Value} {h : Hp} {a b : Int32} : ex 69 103 ls (.int b :: .int a :: st) h = ex 69 104 ls (.int (a - b) :: st) h := x_isub hc_69 dX7_rule_103 rfl
theorem x_69_104 {ls : List Value} {h : Hp} {v : Int32} : ex 69 104 ls [.int v] h = some (some (.int v), h) := x_iret hc_69 dX7_rule_104 rfl
theorem x_70_0 {ls st : List Value} {h : Hp}  : ex 70 0 ls (st) h = gI (ldI ls 1) 70 1 ls st h := x_iload_n hc_70 dX7_run_0 rfl rfl
theorem x_70_1 {ls st : List Value} {h : Hp} {x : Int32} : ex 70 1 ls (.int x :: st) h = if x < 0 then ex 70 4 ls st h else ex 70 11 ls st h := x_if_ge hc_70 dX7_run_1 rfl (by decide)
theorem x_70_4 {ls st : List Value} {h : Hp}  : ex 70 4 ls (st) h = gA (ldA ls 0) 70 5 ls st h := x_aload_n hc_70 dX7_run_4 rfl rfl
theorem x_70_5 {ls st : List Value} {h : Hp}  : ex 70 5 ls (st) h = ex 70 7 ls (.int (-4) :: st) h := x_bipush hc_70 dX7_run_5 rfl (by decide)
theorem x_70_7 {ls st : List Value} {h : Hp} {k : Nat} {a0 : Int32} : ex 70 7 ls (.int a0 :: .ref k :: st) h = if kd k = 7 ∧ st.length ≤ 4 then gC (ex 45 0 [.ref k, .int a0] [] h) 70 10 ls st else none := x_callV (as := [.int a0]) hc_70 dX7_run_7 rfl mr_7_104 rfl rfl rfl (by decide) (by decide)
theorem x_70_10 {ls : List Value} {h : Hp} {v : Int32} : ex 70 10 ls [.int v] h = some (some (.int v), h) := x_iret hc_70 dX7_run_10 rfl
theorem x_70_11 {ls st : List Value} {h : Hp}  : ex 70 11 ls (st) h = gI (ldI ls 1) 70 12 ls st h := x_iload_n hc_70 dX7_run_11 rfl rfl
theorem x_70_12 {ls st : List Value} {h : Hp}  : ex 70 12 ls (st) h = ex 70 13 ls (.int (1) :: st) h := x_iconst hc_70 dX7_run_12 rfl (by decide)
theorem x_70_13 {ls st : List Value} {h : Hp}  : ex 70 13 ls (st) h = ex 70 16 ls (.int (200) :: st) h := x_sipush hc_70 dX7_run_13 rfl (by decide)
theorem x_70_16 {ls st : List Value} {h : Hp} {a0 : Int32} {a1 : Int32} {a2 : Int32} : ex 70 16 ls (.int a2 :: .int a1 :: .int a0 :: st) h = if st.length ≤ 4 then gC (ex 44 0 [.int a0, .int a1, .int a2] [] h) 70 19 ls st else none := x_callS (as := [.int a0, .int a1, .int a2]) hc_70 dX7_run_16 rfl mr_7_100 rfl rfl rfl (by decide)
theorem x_70_19 {ls st : List Value} {h : Hp} {x : Int32} : ex 70 19 ls (.int x :: st) h = if x = 0 then ex 70 22 ls st h else ex 70 29 ls st h := x_if_ne hc_70 dX7_run_19 rfl (by decide)
theorem x_70_22 {ls st : List Value} {h : Hp}  : ex 70 22 ls (st) h = gA (ldA ls 0) 70 23 ls st h := x_aload_n hc_70 dX7_run_22 rfl rfl
theorem x_70_23 {ls st : List Value} {h : Hp}  : ex 70 23 ls (st) h = ex 70 25 ls (.int (-7) :: st) h := x_bipush hc_70 dX7_run_23 rfl (by decide)
theorem x_70_25 {ls st : List Value} {h : Hp} {k : Nat} {a0 : Int32} : ex 70 25 ls (.int a0 :: .ref k :: st) h = if kd k = 7 ∧ st.length ≤ 4 then gC (ex 45 0 [.ref k, .int a0] [] h) 70 28 ls st else none := x_callV (as := [.int a0]) hc_70 dX7_run_25 rfl mr_7_104 rfl rfl rfl (by decide) (by decide)
theorem x_70_28 {ls : List Value} {h : Hp} {v : Int32} : ex 70 28 ls [.int v] h = some (some (.int v), h) := x_iret hc_70 dX7_run_28 rfl
theorem x_70_29 {ls st : List Value} {h : Hp}  : ex 70 29 ls (st) h = ex 70 30 ls (.int (0) :: st) h := x_iconst hc_70 dX7_run_29 rfl (by decide)
theorem x_70_30 {ls st : List Value} {h : Hp} {x : Int32} : ex 70 30 ls (.int x :: st) h = ex 70 31 (ls.set 2 (.int x)) st h := x_istore_n hc_70 dX7_run_30 rfl rfl (by decide)
theorem x_70_31 {ls st : List Value} {h : Hp}  : ex 70 31 ls (st) h = ex 70 32 ls (.int (0) :: st) h := x_iconst hc_70 dX7_run_31 rfl (by decide)
theorem x_70_32 {ls st : List Value} {h : Hp} {x : Int32} : ex 70 32 ls (.int x :: st) h = ex 70 33 (ls.set 3 (.int x)) st h := x_istore_n hc_70 dX7_run_32 rfl rfl (by decide)
theorem x_70_33 {ls st : List Value} {h : Hp}  : ex 70 33 ls (st) h = gI (ldI ls 3) 70 34 ls st h := x_iload_n hc_70 dX7_run_33 rfl rfl
theorem x_70_34 {ls st : List Value} {h : Hp}  : ex 70 34 ls (st) h = gI (ldI ls 1) 70 35 ls st h := x_iload_n hc_70 dX7_run_34 rfl rfl
theorem x_70_35 {ls st : List Value} {h : Hp} {x z : Int32} : ex 70 35 ls (.int z :: .int x :: st) h = if x < z then ex 70 38 ls st h else ex 70 109 ls st h := x_icmp_ge hc_70 dX7_run_35 rfl (by decide)
theorem x_70_38 {ls st : List Value} {h : Hp}  : ex 70 38 ls (st) h = gA (ldA ls 0) 70 39 ls st h := x_aload_n hc_70 dX7_run_38 rfl rfl
theorem x_70_39 {ls st : List Value} {h : Hp} {k : Nat} : ex 70 39 ls (.ref k :: st) h = if kd k = 7 then ex 70 42 ls (vl h k 5 :: st) h else none := x_getf hc_70 dX7_run_39 rfl fr_7_44
theorem x_70_42 {ls st : List Value} {h : Hp} {k : Nat}  : ex 70 42 ls (.ref k :: st) h = if kd k = 1 ∧ st.length ≤ 4 then gC (ex 14 0 [.ref k] [] h) 70 45 ls st else none := x_callV (as := []) hc_70 dX7_run_42 rfl mr_7_234 rfl rfl rfl (by decide) (by decide)
theorem x_70_45 {ls st : List Value} {h : Hp}  : ex 70 45 ls (st) h = ex 70 46 ls (.int (0) :: st) h := x_iconst hc_70 dX7_run_45 rfl (by decide)
theorem x_70_46 {ls st : List Value} {h : Hp} {x : Int32} : ex 70 46 ls (.int x :: st) h = ex 70 48 (ls.set 4 (.int x)) st h := x_istore hc_70 dX7_run_46 rfl (by decide)
theorem x_70_48 {ls st : List Value} {h : Hp}  : ex 70 48 ls (st) h = gI (ldI ls 4) 70 50 ls st h := x_iload hc_70 dX7_run_48 rfl
theorem x_70_50 {ls st : List Value} {h : Hp}  : ex 70 50 ls (st) h = gA (ldA ls 0) 70 51 ls st h := x_aload_n hc_70 dX7_run_50 rfl rfl
theorem x_70_51 {ls st : List Value} {h : Hp} {k : Nat} : ex 70 51 ls (.ref k :: st) h = if kd k = 7 then ex 70 54 ls (vl h k 12 :: st) h else none := x_getf hc_70 dX7_run_51 rfl fr_7_80
theorem x_70_54 {ls st : List Value} {h : Hp} {x z : Int32} : ex 70 54 ls (.int z :: .int x :: st) h = if x < z then ex 70 57 ls st h else ex 70 93 ls st h := x_icmp_ge hc_70 dX7_run_54 rfl (by decide)
theorem x_70_57 {ls st : List Value} {h : Hp}  : ex 70 57 ls (st) h = gI (ldI ls 2) 70 58 ls st h := x_iload_n hc_70 dX7_run_57 rfl rfl
theorem x_70_58 {ls st : List Value} {h : Hp}  : ex 70 58 ls (st) h = gA (ldA ls 0) 70 59 ls st h := x_aload_n hc_70 dX7_run_58 rfl rfl
theorem x_70_59 {ls st : List Value} {h : Hp}  : ex 70 59 ls (st) h = gA (ldA ls 0) 70 60 ls st h := x_aload_n hc_70 dX7_run_59 rfl rfl
theorem x_70_60 {ls st : List Value} {h : Hp} {k : Nat} : ex 70 60 ls (.ref k :: st) h = if kd k = 7 then ex 70 63 ls (vl h k 1 :: st) h else none := x_getf hc_70 dX7_run_60 rfl fr_7_17
theorem x_70_63 {ls st : List Value} {h : Hp}  : ex 70 63 ls (st) h = gI (ldI ls 4) 70 65 ls st h := x_iload hc_70 dX7_run_63 rfl
theorem x_70_65 {ls st : List Value} {h : Hp} {k : Nat} {x : Int32} : ex 70 65 ls (.int x :: .ref k :: st) h = if (11 ≤ kd k ∧ kd k ≤ 14) ∧ x.toNatClampNeg < ln k ∧ 0 ≤ x then gA (rf k x.toNatClampNeg) 70 66 ls st h else none := x_aald hc_70 dX7_run_65 rfl
theorem x_70_66 {ls st : List Value} {h : Hp}  : ex 70 66 ls (st) h = gA (ldA ls 0) 70 67 ls st h := x_aload_n hc_70 dX7_run_66 rfl rfl
theorem x_70_67 {ls st : List Value} {h : Hp} {k : Nat} : ex 70 67 ls (.ref k :: st) h = if kd k = 7 then ex 70 70 ls (vl h k 5 :: st) h else none := x_getf hc_70 dX7_run_67 rfl fr_7_44
theorem x_70_70 {ls st : List Value} {h : Hp}  : ex 70 70 ls (st) h = gA (ldA ls 0) 70 71 ls st h := x_aload_n hc_70 dX7_run_70 rfl rfl
theorem x_70_71 {ls st : List Value} {h : Hp} {k : Nat} : ex 70 71 ls (.ref k :: st) h = if kd k = 7 then ex 70 74 ls (vl h k 14 :: st) h else none := x_getf hc_70 dX7_run_71 rfl fr_7_86
theorem x_70_74 {ls st : List Value} {h : Hp} {k : Nat} {a0 : Nat} {a1 : Nat} {a2 : Int32} : ex 70 74 ls (.int a2 :: .ref a1 :: .ref a0 :: .ref k :: st) h = if kd k = 7 ∧ st.length ≤ 4 then gC (ex 71 0 [.ref k, .ref a0, .ref a1, .int a2, .null, .null] [] h) 70 77 ls st else none := x_callV (as := [.ref a0, .ref a1, .int a2]) hc_70 dX7_run_74 rfl mr_7_237 rfl rfl rfl (by decide) (by decide)
theorem x_70_77 {ls st : List Value} {h : Hp} {x : Int32} : ex 70 77 ls (.int x :: st) h = if x = 0 then ex 70 84 ls st h else ex 70 80 ls st h := x_if_eq hc_70 dX7_run_77 rfl (by decide)
theorem x_70_80 {ls st : List Value} {h : Hp}  : ex 70 80 ls (st) h = ex 70 81 ls (.int (1) :: st) h := x_iconst hc_70 dX7_run_80 rfl (by decide)
theorem x_70_81 {ls st : List Value} {h : Hp}  : ex 70 81 ls (st) h = ex 70 85 ls st h := x_goto hc_70 dX7_run_81 (by decide)
theorem x_70_84 {ls st : List Value} {h : Hp}  : ex 70 84 ls (st) h = ex 70 85 ls (.int (0) :: st) h := x_iconst hc_70 dX7_run_84 rfl (by decide)
theorem x_70_85 {ls st : List Value} {h : Hp} {a b : Int32} : ex 70 85 ls (.int b :: .int a :: st) h = ex 70 86 ls (.int (a + b) :: st) h := x_iadd hc_70 dX7_run_85 rfl
theorem x_70_86 {ls st : List Value} {h : Hp} {x : Int32} : ex 70 86 ls (.int x :: st) h = ex 70 87 (ls.set 2 (.int x)) st h := x_istore_n hc_70 dX7_run_86 rfl rfl (by decide)
theorem x_70_87 {ls st : List Value} {h : Hp}  : ex 70 87 ls (st) h = gN (ldI ls 4) 70 90 ls 4 (1) st h := x_iinc hc_70 dX7_run_87 rfl (by decide) (by decide)
theorem x_70_90 {ls st : List Value} {h : Hp}  : ex 70 90 ls (st) h = ex 70 48 ls st h := x_goto hc_70 dX7_run_90 (by decide)
theorem x_70_93 {ls st : List Value} {h : Hp}  : ex 70 93 ls (st) h = gA (ldA ls 0) 70 94 ls st h := x_aload_n hc_70 dX7_run_93 rfl rfl
theorem x_70_94i {ls st : List Value} {h : Hp} {u : Int32} : ex 70 94 ls (.int u :: st) h = ex 70 95 ls (.int u :: .int u :: st) h := x_dup_i hc_70 dX7_run_94 rfl
theorem x_70_94a {ls st : List Value} {h : Hp} {u : Nat} : ex 70 94 ls (.ref u :: st) h = ex 70 95 ls (.ref u :: .ref u :: st) h := x_dup_a hc_70 dX7_run_94 rfl
theorem x_70_95 {ls st : List Value} {h : Hp} {k : Nat} : ex 70 95 ls (.ref k :: st) h = if kd k = 7 then ex 70 98 ls (vl h k 14 :: st) h else none := x_getf hc_70 dX7_run_95 rfl fr_7_86
theorem x_70_98 {ls st : List Value} {h : Hp}  : ex 70 98 ls (st) h = ex 70 99 ls (.int (1) :: st) h := x_iconst hc_70 dX7_run_98 rfl (by decide)
theorem x_70_99 {ls st : List Value} {h : Hp} {a b : Int32} : ex 70 99 ls (.int b :: .int a :: st) h = ex 70 100 ls (.int (a + b) :: st) h := x_iadd hc_70 dX7_run_99 rfl
theorem x_70_100 {ls st : List Value} {h : Hp} {k : Nat} {x : Int32} : ex 70 100 ls (.int x :: .ref k :: st) h = if kd k = 7 then ex 70 103 ls st (hu h k 14 x) else none := x_putf hc_70 dX7_run_100 rfl fr_7_86 (by decide)
theorem x_70_103 {ls st : List Value} {h : Hp}  : ex 70 103 ls (st) h = gN (ldI ls 3) 70 106 ls 3 (1) st h := x_iinc hc_70 dX7_run_103 rfl (by decide) (by decide)
theorem x_70_106 {ls st : List Value} {h : Hp}  : ex 70 106 ls (st) h = ex 70 33 ls st h := x_goto hc_70 dX7_run_106 (by decide)
theorem x_70_109 {ls st : List Value} {h : Hp}  : ex 70 109 ls (st) h = gI (ldI ls 2) 70 110 ls st h := x_iload_n hc_70 dX7_run_109 rfl rfl
theorem x_70_110 {ls : List Value} {h : Hp} {v : Int32} : ex 70 110 ls [.int v] h = some (some (.int v), h) := x_iret hc_70 dX7_run_110 rfl
theorem x_71_0 {ls st : List Value} {h : Hp}  : ex 71 0 ls (st) h = gA (ldA ls 0) 71 1 ls st h := x_aload_n hc_71 dX7_passHour_0 rfl rfl
theorem x_71_1 {ls st : List Value} {h : Hp}  : ex 71 1 ls (st) h = gA (ldA ls 1) 71 2 ls st h := x_aload_n hc_71 dX7_passHour_1 rfl rfl
theorem x_71_2 {ls st : List Value} {h : Hp}  : ex 71 2 ls (st) h = gI (ldI ls 3) 71 3 ls st h := x_iload_n hc_71 dX7_passHour_2 rfl rfl
theorem x_71_3 {ls st : List Value} {h : Hp} {k : Nat} {a0 : Nat} {a1 : Int32} : ex 71 3 ls (.int a1 :: .ref a0 :: .ref k :: st) h = if kd k = 7 ∧ st.length ≤ 4 then gC (ex 72 0 [.ref k, .ref a0, .int a1, .null] [] h) 71 6 ls st else none := x_callV (as := [.ref a0, .int a1]) hc_71 dX7_passHour_3 rfl mr_7_289 rfl rfl rfl (by decide) (by decide)
theorem x_71_6 {ls st : List Value} {h : Hp} {x : Int32} : ex 71 6 ls (.int x :: st) h = ex 71 8 (ls.set 4 (.int x)) st h := x_istore hc_71 dX7_passHour_6 rfl (by decide)
theorem x_71_8 {ls st : List Value} {h : Hp}  : ex 71 8 ls (st) h = gA (ldA ls 1) 71 9 ls st h := x_aload_n hc_71 dX7_passHour_8 rfl rfl
theorem x_71_9 {ls st : List Value} {h : Hp} {k : Nat}  : ex 71 9 ls (.ref k :: st) h = if kd k = 0 ∧ st.length ≤ 4 then gC (ex 2 0 [.ref k] [] h) 71 12 ls st else none := x_callV (as := []) hc_71 dX7_passHour_9 rfl mr_7_174 rfl rfl rfl (by decide) (by decide)
theorem x_71_12 {ls st : List Value} {h : Hp} {x : Int32} : ex 71 12 ls (.int x :: st) h = if x = 0 then ex 71 15 ls st h else ex 71 24 ls st h := x_if_ne hc_71 dX7_passHour_12 rfl (by decide)
theorem x_71_15 {ls st : List Value} {h : Hp}  : ex 71 15 ls (st) h = gA (ldA ls 0) 71 16 ls st h := x_aload_n hc_71 dX7_passHour_15 rfl rfl
theorem x_71_16 {ls st : List Value} {h : Hp}  : ex 71 16 ls (st) h = gA (ldA ls 1) 71 17 ls st h := x_aload_n hc_71 dX7_passHour_16 rfl rfl
theorem x_71_17 {ls st : List Value} {h : Hp}  : ex 71 17 ls (st) h = gA (ldA ls 2) 71 18 ls st h := x_aload_n hc_71 dX7_passHour_17 rfl rfl
theorem x_71_18 {ls st : List Value} {h : Hp}  : ex 71 18 ls (st) h = gI (ldI ls 3) 71 19 ls st h := x_iload_n hc_71 dX7_passHour_18 rfl rfl
theorem x_71_19 {ls st : List Value} {h : Hp}  : ex 71 19 ls (st) h = gI (ldI ls 4) 71 21 ls st h := x_iload hc_71 dX7_passHour_19 rfl
theorem x_71_21 {ls st : List Value} {h : Hp} {k : Nat} {a0 : Nat} {a1 : Nat} {a2 : Int32} {a3 : Int32} : ex 71 21 ls (.int a3 :: .int a2 :: .ref a1 :: .ref a0 :: .ref k :: st) h = if kd k = 7 ∧ st.length ≤ 4 then gC (ex 73 0 [.ref k, .ref a0, .ref a1, .int a2, .int a3, .null, .null, .null] [] h) 71 24 ls st else none := x_callV (as := [.ref a0, .ref a1, .int a2, .int a3]) hc_71 dX7_passHour_21 rfl mr_7_292 rfl rfl rfl (by decide) (by decide)
theorem x_71_24 {ls st : List Value} {h : Hp}  : ex 71 24 ls (st) h = gA (ldA ls 1) 71 25 ls st h := x_aload_n hc_71 dX7_passHour_24 rfl rfl
theorem x_71_25 {ls st : List Value} {h : Hp} {k : Nat}  : ex 71 25 ls (.ref k :: st) h = if kd k = 0 ∧ st.length ≤ 4 then gC (ex 7 0 [.ref k, .null, .null] [] h) 71 28 ls st else none := x_callV (as := []) hc_71 dX7_passHour_25 rfl mr_7_296 rfl rfl rfl (by decide) (by decide)
theorem x_71_28 {ls st : List Value} {h : Hp} {x : Int32} : ex 71 28 ls (.int x :: st) h = ex 71 30 (ls.set 5 (.int x)) st h := x_istore hc_71 dX7_passHour_28 rfl (by decide)
theorem x_71_30 {ls st : List Value} {h : Hp}  : ex 71 30 ls (st) h = gA (ldA ls 2) 71 31 ls st h := x_aload_n hc_71 dX7_passHour_30 rfl rfl
theorem x_71_31i {ls st : List Value} {h : Hp} {u : Int32} : ex 71 31 ls (.int u :: st) h = ex 71 32 ls (.int u :: .int u :: st) h := x_dup_i hc_71 dX7_passHour_31 rfl
theorem x_71_31a {ls st : List Value} {h : Hp} {u : Nat} : ex 71 31 ls (.ref u :: st) h = ex 71 32 ls (.ref u :: .ref u :: st) h := x_dup_a hc_71 dX7_passHour_31 rfl
theorem x_71_32 {ls st : List Value} {h : Hp} {k : Nat} : ex 71 32 ls (.ref k :: st) h = if kd k = 1 then ex 71 35 ls (vl h k 3 :: st) h else none := x_getf hc_71 dX7_passHour_32 rfl fr_7_264
theorem x_71_35 {ls st : List Value} {h : Hp}  : ex 71 35 ls (st) h = gI (ldI ls 5) 71 37 ls st h := x_iload hc_71 dX7_passHour_35 rfl
theorem x_71_37 {ls st : List Value} {h : Hp} {a b : Int32} : ex 71 37 ls (.int b :: .int a :: st) h = ex 71 38 ls (.int (a + b) :: st) h := x_iadd hc_71 dX7_passHour_37 rfl
theorem x_71_38 {ls st : List Value} {h : Hp} {k : Nat} {x : Int32} : ex 71 38 ls (.int x :: .ref k :: st) h = if kd k = 1 then ex 71 41 ls st (hu h k 3 x) else none := x_putf hc_71 dX7_passHour_38 rfl fr_7_264 (by decide)
theorem x_71_41 {ls st : List Value} {h : Hp}  : ex 71 41 ls (st) h = gA (ldA ls 1) 71 42 ls st h := x_aload_n hc_71 dX7_passHour_41 rfl rfl
theorem x_71_42 {ls st : List Value} {h : Hp}  : ex 71 42 ls (st) h = gA (ldA ls 1) 71 43 ls st h := x_aload_n hc_71 dX7_passHour_42 rfl rfl
theorem x_71_43 {ls st : List Value} {h : Hp}  : ex 71 43 ls (st) h = gI (ldI ls 4) 71 45 ls st h := x_iload hc_71 dX7_passHour_43 rfl
theorem x_71_45 {ls st : List Value} {h : Hp}  : ex 71 45 ls (st) h = gI (ldI ls 5) 71 47 ls st h := x_iload hc_71 dX7_passHour_45 rfl
theorem x_71_47 {ls st : List Value} {h : Hp}  : ex 71 47 ls (st) h = gA (ldA ls 0) 71 48 ls st h := x_aload_n hc_71 dX7_passHour_47 rfl rfl
theorem x_71_48 {ls st : List Value} {h : Hp} {k : Nat} : ex 71 48 ls (.ref k :: st) h = if kd k = 7 then ex 71 51 ls (vl h k 6 :: st) h else none := x_getf hc_71 dX7_passHour_48 rfl fr_7_57
theorem x_71_51 {ls st : List Value} {h : Hp} {k : Nat} {a0 : Int32} {a1 : Int32} {a2 : Nat} : ex 71 51 ls (.ref a2 :: .int a1 :: .int a0 :: .ref k :: st) h = if kd k = 0 ∧ st.length ≤ 4 then gC (ex 8 0 [.ref k, .int a0, .int a1, .ref a2, .null, .null, .null, .null] [] h) 71 54 ls st else none := x_callV (as := [.int a0, .int a1, .ref a2]) hc_71 dX7_passHour_51 rfl mr_7_299 rfl rfl rfl (by decide) (by decide)
theorem x_71_54 {ls st : List Value} {h : Hp} {k : Nat} {a0 : Int32} : ex 71 54 ls (.int a0 :: .ref k :: st) h = if kd k = 0 ∧ st.length ≤ 4 then gC (ex 9 0 [.ref k, .int a0, .null] [] h) 71 57 ls st else none := x_callV (as := [.int a0]) hc_71 dX7_passHour_54 rfl mr_7_303 rfl rfl rfl (by decide) (by decide)
theorem x_71_57 {ls st : List Value} {h : Hp}  : ex 71 57 ls (st) h = gA (ldA ls 1) 71 58 ls st h := x_aload_n hc_71 dX7_passHour_57 rfl rfl
theorem x_71_58 {ls st : List Value} {h : Hp} {k : Nat}  : ex 71 58 ls (.ref k :: st) h = if kd k = 0 ∧ st.length ≤ 4 then gC (ex 1 0 [.ref k] [] h) 71 61 ls st else none := x_callV (as := []) hc_71 dX7_passHour_58 rfl mr_7_157 rfl rfl rfl (by decide) (by decide)
theorem x_71_61 {ls st : List Value} {h : Hp} {x : Int32} : ex 71 61 ls (.int x :: st) h = if x = 0 then ex 71 76 ls st h else ex 71 64 ls st h := x_if_eq hc_71 dX7_passHour_61 rfl (by decide)
theorem x_71_64 {ls st : List Value} {h : Hp}  : ex 71 64 ls (st) h = gA (ldA ls 0) 71 65 ls st h := x_aload_n hc_71 dX7_passHour_64 rfl rfl
theorem x_71_65 {ls st : List Value} {h : Hp}  : ex 71 65 ls (st) h = gA (ldA ls 1) 71 66 ls st h := x_aload_n hc_71 dX7_passHour_65 rfl rfl
theorem x_71_66 {ls st : List Value} {h : Hp} {k : Nat} {a0 : Nat} : ex 71 66 ls (.ref a0 :: .ref k :: st) h = if kd k = 7 ∧ st.length ≤ 4 then gC (ex 75 0 [.ref k, .ref a0, .null] [] h) 71 69 ls st else none := x_callV (as := [.ref a0]) hc_71 dX7_passHour_66 rfl mr_7_306 rfl rfl rfl (by decide) (by decide)
theorem x_71_69 {ls st : List Value} {h : Hp} {x : Int32} : ex 71 69 ls (.int x :: st) h = if x = 0 then ex 71 76 ls st h else ex 71 72 ls st h := x_if_eq hc_71 dX7_passHour_69 rfl (by decide)
theorem x_71_72 {ls st : List Value} {h : Hp}  : ex 71 72 ls (st) h = ex 71 73 ls (.int (1) :: st) h := x_iconst hc_71 dX7_passHour_72 rfl (by decide)
theorem x_71_73 {ls st : List Value} {h : Hp}  : ex 71 73 ls (st) h = ex 71 77 ls st h := x_goto hc_71 dX7_passHour_73 (by decide)
theorem x_71_76 {ls st : List Value} {h : Hp}  : ex 71 76 ls (st) h = ex 71 77 ls (.int (0) :: st) h := x_iconst hc_71 dX7_passHour_76 rfl (by decide)
theorem x_71_77 {ls : List Value} {h : Hp} {v : Int32} : ex 71 77 ls [.int v] h = if v = 0 ∨ v = 1 then some (some (.int v), h) else none := x_zret hc_71 dX7_passHour_77 rfl
theorem x_72_0 {ls st : List Value} {h : Hp}  : ex 72 0 ls (st) h = gA (ldA ls 0) 72 1 ls st h := x_aload_n hc_72 dX7_outsideOf_0 rfl rfl
theorem x_72_1 {ls st : List Value} {h : Hp} {k : Nat} : ex 72 1 ls (.ref k :: st) h = if kd k = 7 then ex 72 4 ls (vl h k 0 :: st) h else none := x_getf hc_72 dX7_outsideOf_1 rfl fr_7_11
theorem x_72_4 {ls st : List Value} {h : Hp}  : ex 72 4 ls (st) h = gA (ldA ls 1) 72 5 ls st h := x_aload_n hc_72 dX7_outsideOf_4 rfl rfl
theorem x_72_5 {ls st : List Value} {h : Hp} {k : Nat} : ex 72 5 ls (.ref k :: st) h = if kd k = 0 then ex 72 8 ls (vl h k 6 :: st) h else none := x_getf hc_72 dX7_outsideOf_5 rfl fr_7_179
theorem x_72_8 {ls st : List Value} {h : Hp} {k : Nat} {x : Int32} : ex 72 8 ls (.int x :: .ref k :: st) h = if (11 ≤ kd k ∧ kd k ≤ 14) ∧ x.toNatClampNeg < ln k ∧ 0 ≤ x then gA (rf k x.toNatClampNeg) 72 9 ls st h else none := x_aald hc_72 dX7_outsideOf_8 rfl
theorem x_72_9 {ls st : List Value} {h : Hp}  : ex 72 9 ls (st) h = gI (ldI ls 2) 72 10 ls st h := x_iload_n hc_72 dX7_outsideOf_9 rfl rfl
theorem x_72_10 {ls st : List Value} {h : Hp} {k : Nat} {a0 : Int32} : ex 72 10 ls (.int a0 :: .ref k :: st) h = if kd k = 4 ∧ st.length ≤ 4 then gC (ex 21 0 [.ref k, .int a0] [] h) 72 13 ls st else none := x_callV (as := [.int a0]) hc_72 dX7_outsideOf_10 rfl mr_7_141 rfl rfl rfl (by decide) (by decide)
theorem x_72_13 {ls st : List Value} {h : Hp} {x : Int32} : ex 72 13 ls (.int x :: st) h = ex 72 14 (ls.set 3 (.int x)) st h := x_istore_n hc_72 dX7_outsideOf_13 rfl rfl (by decide)
theorem x_72_14 {ls st : List Value} {h : Hp}  : ex 72 14 ls (st) h = gA (ldA ls 1) 72 15 ls st h := x_aload_n hc_72 dX7_outsideOf_14 rfl rfl
theorem x_72_15 {ls st : List Value} {h : Hp} {k : Nat}  : ex 72 15 ls (.ref k :: st) h = if kd k = 0 ∧ st.length ≤ 4 then gC (ex 2 0 [.ref k] [] h) 72 18 ls st else none := x_callV (as := []) hc_72 dX7_outsideOf_15 rfl mr_7_174 rfl rfl rfl (by decide) (by decide)
theorem x_72_18 {ls st : List Value} {h : Hp} {x : Int32} : ex 72 18 ls (.int x :: st) h = if x = 0 then ex 72 21 ls st h else ex 72 23 ls st h := x_if_ne hc_72 dX7_outsideOf_18 rfl (by decide)
theorem x_72_21 {ls st : List Value} {h : Hp}  : ex 72 21 ls (st) h = gI (ldI ls 3) 72 22 ls st h := x_iload_n hc_72 dX7_outsideOf_21 rfl rfl
theorem x_72_22 {ls : List Value} {h : Hp} {v : Int32} : ex 72 22 ls [.int v] h = some (some (.int v), h) := x_iret hc_72 dX7_outsideOf_22 rfl
theorem x_72_23 {ls st : List Value} {h : Hp}  : ex 72 23 ls (st) h = gI (ldI ls 3) 72 24 ls st h := x_iload_n hc_72 dX7_outsideOf_23 rfl rfl
theorem x_72_24 {ls st : List Value} {h : Hp}  : ex 72 24 ls (st) h = gA (ldA ls 0) 72 25 ls st h := x_aload_n hc_72 dX7_outsideOf_24 rfl rfl
theorem x_72_25 {ls st : List Value} {h : Hp} {k : Nat} : ex 72 25 ls (.ref k :: st) h = if kd k = 7 then ex 72 28 ls (vl h k 0 :: st) h else none := x_getf hc_72 dX7_outsideOf_25 rfl fr_7_11
theorem x_72_28 {ls st : List Value} {h : Hp}  : ex 72 28 ls (st) h = gA (ldA ls 1) 72 29 ls st h := x_aload_n hc_72 dX7_outsideOf_28 rfl rfl
theorem x_72_29 {ls st : List Value} {h : Hp} {k : Nat}  : ex 72 29 ls (.ref k :: st) h = if kd k = 0 ∧ st.length ≤ 4 then gC (ex 5 0 [.ref k] [] h) 72 32 ls st else none := x_callV (as := []) hc_72 dX7_outsideOf_29 rfl mr_7_282 rfl rfl rfl (by decide) (by decide)
theorem x_72_32 {ls st : List Value} {h : Hp} {k : Nat} {x : Int32} : ex 72 32 ls (.int x :: .ref k :: st) h = if (11 ≤ kd k ∧ kd k ≤ 14) ∧ x.toNatClampNeg < ln k ∧ 0 ≤ x then gA (rf k x.toNatClampNeg) 72 33 ls st h else none := x_aald hc_72 dX7_outsideOf_32 rfl
theorem x_72_33 {ls st : List Value} {h : Hp}  : ex 72 33 ls (st) h = gI (ldI ls 2) 72 34 ls st h := x_iload_n hc_72 dX7_outsideOf_33 rfl rfl
theorem x_72_34 {ls st : List Value} {h : Hp} {k : Nat} {a0 : Int32} : ex 72 34 ls (.int a0 :: .ref k :: st) h = if kd k = 4 ∧ st.length ≤ 4 then gC (ex 21 0 [.ref k, .int a0] [] h) 72 37 ls st else none := x_callV (as := [.int a0]) hc_72 dX7_outsideOf_34 rfl mr_7_141 rfl rfl rfl (by decide) (by decide)
theorem x_72_37 {ls st : List Value} {h : Hp} {a b : Int32} : ex 72 37 ls (.int b :: .int a :: st) h = ex 72 38 ls (.int (a + b) :: st) h := x_iadd hc_72 dX7_outsideOf_37 rfl
theorem x_72_38 {ls st : List Value} {h : Hp}  : ex 72 38 ls (st) h = ex 72 39 ls (.int (2) :: st) h := x_iconst hc_72 dX7_outsideOf_38 rfl (by decide)
theorem x_72_39 {ls st : List Value} {h : Hp} {a b : Int32} : ex 72 39 ls (.int b :: .int a :: st) h = if b = 0 then none else ex 72 40 ls (.int (a / b) :: st) h := x_idiv hc_72 dX7_outsideOf_39 rfl
theorem x_72_40 {ls : List Value} {h : Hp} {v : Int32} : ex 72 40 ls [.int v] h = some (some (.int v), h) := x_iret hc_72 dX7_outsideOf_40 rfl
theorem x_73_0 {ls st : List Value} {h : Hp}  : ex 73 0 ls (st) h = gA (ldA ls 0) 73 1 ls st h := x_aload_n hc_73 dX7_obeyRules_0 rfl rfl
theorem x_73_1 {ls st : List Value} {h : Hp} {k : Nat} : ex 73 1 ls (.ref k :: st) h = if kd k = 7 then ex 73 4 ls (vl h k 7 :: st) h else none := x_getf hc_73 dX7_obeyRules_1 rfl fr_7_60
theorem x_73_4 {ls st : List Value} {h : Hp}  : ex 73 4 ls (st) h = ex 73 5 ls (.int (0) :: st) h := x_iconst hc_73 dX7_obeyRules_4 rfl (by decide)
theorem x_73_5 {ls st : List Value} {h : Hp}  : ex 73 5 ls (st) h = gA (ldA ls 1) 73 6 ls st h := x_aload_n hc_73 dX7_obeyRules_5 rfl rfl
theorem x_73_6 {ls st : List Value} {h : Hp} {k : Nat} : ex 73 6 ls (.ref k :: st) h = if kd k = 0 then ex 73 9 ls (vl h k 4 :: st) h else none := x_getf hc_73 dX7_obeyRules_6 rfl fr_7_177
theorem x_73_9 {ls st : List Value} {h : Hp} {k : Nat} {x u : Int32} : ex 73 9 ls (.int u :: .int x :: .ref k :: st) h = if kd k = 9 ∧ x.toNatClampNeg < ln k ∧ 0 ≤ x then ex 73 10 ls st (hu h k x.toNatClampNeg u) else none := x_iast hc_73 dX7_obeyRules_9 rfl
theorem x_73_10 {ls st : List Value} {h : Hp}  : ex 73 10 ls (st) h = gA (ldA ls 0) 73 11 ls st h := x_aload_n hc_73 dX7_obeyRules_10 rfl rfl
theorem x_73_11 {ls st : List Value} {h : Hp} {k : Nat} : ex 73 11 ls (.ref k :: st) h = if kd k = 7 then ex 73 14 ls (vl h k 7 :: st) h else none := x_getf hc_73 dX7_obeyRules_11 rfl fr_7_60
theorem x_73_14 {ls st : List Value} {h : Hp}  : ex 73 14 ls (st) h = ex 73 15 ls (.int (1) :: st) h := x_iconst hc_73 dX7_obeyRules_14 rfl (by decide)
theorem x_73_15 {ls st : List Value} {h : Hp}  : ex 73 15 ls (st) h = gA (ldA ls 1) 73 16 ls st h := x_aload_n hc_73 dX7_obeyRules_15 rfl rfl
theorem x_73_16 {ls st : List Value} {h : Hp} {k : Nat}  : ex 73 16 ls (.ref k :: st) h = if kd k = 0 ∧ st.length ≤ 4 then gC (ex 6 0 [.ref k, .null, .null] [] h) 73 19 ls st else none := x_callV (as := []) hc_73 dX7_obeyRules_16 rfl mr_7_310 rfl rfl rfl (by decide) (by decide)
theorem x_73_19 {ls st : List Value} {h : Hp} {k : Nat} {x u : Int32} : ex 73 19 ls (.int u :: .int x :: .ref k :: st) h = if kd k = 9 ∧ x.toNatClampNeg < ln k ∧ 0 ≤ x then ex 73 20 ls st (hu h k x.toNatClampNeg u) else none := x_iast hc_73 dX7_obeyRules_19 rfl
theorem x_73_20 {ls st : List Value} {h : Hp}  : ex 73 20 ls (st) h = gA (ldA ls 0) 73 21 ls st h := x_aload_n hc_73 dX7_obeyRules_20 rfl rfl
theorem x_73_21 {ls st : List Value} {h : Hp} {k : Nat} : ex 73 21 ls (.ref k :: st) h = if kd k = 7 then ex 73 24 ls (vl h k 7 :: st) h else none := x_getf hc_73 dX7_obeyRules_21 rfl fr_7_60
theorem x_73_24 {ls st : List Value} {h : Hp}  : ex 73 24 ls (st) h = ex 73 25 ls (.int (2) :: st) h := x_iconst hc_73 dX7_obeyRules_24 rfl (by decide)
theorem x_73_25 {ls st : List Value} {h : Hp}  : ex 73 25 ls (st) h = gI (ldI ls 4) 73 27 ls st h := x_iload hc_73 dX7_obeyRules_25 rfl
theorem x_73_27 {ls st : List Value} {h : Hp} {k : Nat} {x u : Int32} : ex 73 27 ls (.int u :: .int x :: .ref k :: st) h = if kd k = 9 ∧ x.toNatClampNeg < ln k ∧ 0 ≤ x then ex 73 28 ls st (hu h k x.toNatClampNeg u) else none := x_iast hc_73 dX7_obeyRules_27 rfl
theorem x_73_28 {ls st : List Value} {h : Hp}  : ex 73 28 ls (st) h = gA (ldA ls 0) 73 29 ls st h := x_aload_n hc_73 dX7_obeyRules_28 rfl rfl
theorem x_73_29 {ls st : List Value} {h : Hp} {k : Nat} : ex 73 29 ls (.ref k :: st) h = if kd k = 7 then ex 73 32 ls (vl h k 7 :: st) h else none := x_getf hc_73 dX7_obeyRules_29 rfl fr_7_60
theorem x_73_32 {ls st : List Value} {h : Hp}  : ex 73 32 ls (st) h = ex 73 33 ls (.int (3) :: st) h := x_iconst hc_73 dX7_obeyRules_32 rfl (by decide)
theorem x_73_33 {ls st : List Value} {h : Hp}  : ex 73 33 ls (st) h = gA (ldA ls 1) 73 34 ls st h := x_aload_n hc_73 dX7_obeyRules_33 rfl rfl
theorem x_73_34 {ls st : List Value} {h : Hp} {k : Nat} : ex 73 34 ls (.ref k :: st) h = if kd k = 0 then ex 73 37 ls (vl h k 6 :: st) h else none := x_getf hc_73 dX7_obeyRules_34 rfl fr_7_179
theorem x_73_37 {ls st : List Value} {h : Hp} {k : Nat} {x u : Int32} : ex 73 37 ls (.int u :: .int x :: .ref k :: st) h = if kd k = 9 ∧ x.toNatClampNeg < ln k ∧ 0 ≤ x then ex 73 38 ls st (hu h k x.toNatClampNeg u) else none := x_iast hc_73 dX7_obeyRules_37 rfl
theorem x_73_38 {ls st : List Value} {h : Hp}  : ex 73 38 ls (st) h = gA (ldA ls 0) 73 39 ls st h := x_aload_n hc_73 dX7_obeyRules_38 rfl rfl
theorem x_73_39 {ls st : List Value} {h : Hp} {k : Nat} : ex 73 39 ls (.ref k :: st) h = if kd k = 7 then ex 73 42 ls (vl h k 7 :: st) h else none := x_getf hc_73 dX7_obeyRules_39 rfl fr_7_60
theorem x_73_42 {ls st : List Value} {h : Hp}  : ex 73 42 ls (st) h = ex 73 43 ls (.int (4) :: st) h := x_iconst hc_73 dX7_obeyRules_42 rfl (by decide)
theorem x_73_43 {ls st : List Value} {h : Hp}  : ex 73 43 ls (st) h = gA (ldA ls 1) 73 44 ls st h := x_aload_n hc_73 dX7_obeyRules_43 rfl rfl
theorem x_73_44 {ls st : List Value} {h : Hp} {k : Nat} : ex 73 44 ls (.ref k :: st) h = if kd k = 0 then ex 73 47 ls (vl h k 2 :: st) h else none := x_getf hc_73 dX7_obeyRules_44 rfl fr_7_313
theorem x_73_47 {ls st : List Value} {h : Hp} {k : Nat} {x u : Int32} : ex 73 47 ls (.int u :: .int x :: .ref k :: st) h = if kd k = 9 ∧ x.toNatClampNeg < ln k ∧ 0 ≤ x then ex 73 48 ls st (hu h k x.toNatClampNeg u) else none := x_iast hc_73 dX7_obeyRules_47 rfl
theorem x_73_48 {ls st : List Value} {h : Hp}  : ex 73 48 ls (st) h = gA (ldA ls 0) 73 49 ls st h := x_aload_n hc_73 dX7_obeyRules_48 rfl rfl
theorem x_73_49 {ls st : List Value} {h : Hp}  : ex 73 49 ls (st) h = ex 73 50 ls (.int (1) :: st) h := x_iconst hc_73 dX7_obeyRules_49 rfl (by decide)
theorem x_73_50 {ls st : List Value} {h : Hp}  : ex 73 50 ls (st) h = gI (ldI ls 3) 73 51 ls st h := x_iload_n hc_73 dX7_obeyRules_50 rfl rfl
theorem x_73_51 {ls st : List Value} {h : Hp} {k : Nat} {a0 : Int32} {a1 : Int32} : ex 73 51 ls (.int a1 :: .int a0 :: .ref k :: st) h = if kd k = 7 ∧ st.length ≤ 4 then gC (ex 74 0 [.ref k, .int a0, .int a1, .null, .null] [] h) 73 54 ls st else none := x_callV (as := [.int a0, .int a1]) hc_73 dX7_obeyRules_51 rfl mr_7_316 rfl rfl rfl (by decide) (by decide)
theorem x_73_54 {ls st : List Value} {h : Hp} {x : Int32} : ex 73 54 ls (.int x :: st) h = ex 73 56 (ls.set 5 (.int x)) st h := x_istore hc_73 dX7_obeyRules_54 rfl (by decide)
theorem x_73_56 {ls st : List Value} {h : Hp}  : ex 73 56 ls (st) h = gI (ldI ls 5) 73 58 ls st h := x_iload hc_73 dX7_obeyRules_56 rfl
theorem x_73_58 {ls st : List Value} {h : Hp}  : ex 73 58 ls (st) h = ex 73 59 ls (.int (-1) :: st) h := x_iconst hc_73 dX7_obeyRules_58 rfl (by decide)
theorem x_73_59 {ls st : List Value} {h : Hp} {x z : Int32} : ex 73 59 ls (.int z :: .int x :: st) h = if x = z then ex 73 76 ls st h else ex 73 62 ls st h := x_icmp_eq hc_73 dX7_obeyRules_59 rfl (by decide)
theorem x_73_62 {ls st : List Value} {h : Hp}  : ex 73 62 ls (st) h = gA (ldA ls 1) 73 63 ls st h := x_aload_n hc_73 dX7_obeyRules_62 rfl rfl
theorem x_73_63 {ls st : List Value} {h : Hp}  : ex 73 63 ls (st) h = gI (ldI ls 5) 73 65 ls st h := x_iload hc_73 dX7_obeyRules_63 rfl
theorem x_73_65 {ls st : List Value} {h : Hp} {x : Int32} : ex 73 65 ls (.int x :: st) h = if x = 0 then ex 73 68 ls st h else ex 73 72 ls st h := x_if_ne hc_73 dX7_obeyRules_65 rfl (by decide)
theorem x_73_68 {ls st : List Value} {h : Hp}  : ex 73 68 ls (st) h = ex 73 69 ls (.int (0) :: st) h := x_iconst hc_73 dX7_obeyRules_68 rfl (by decide)
theorem x_73_69 {ls st : List Value} {h : Hp}  : ex 73 69 ls (st) h = ex 73 73 ls st h := x_goto hc_73 dX7_obeyRules_69 (by decide)
theorem x_73_72 {ls st : List Value} {h : Hp}  : ex 73 72 ls (st) h = ex 73 73 ls (.int (1) :: st) h := x_iconst hc_73 dX7_obeyRules_72 rfl (by decide)
theorem x_73_73 {ls st : List Value} {h : Hp} {k : Nat} {x : Int32} : ex 73 73 ls (.int x :: .ref k :: st) h = if kd k = 0 then ex 73 76 ls st (hu h k 5 x) else none := x_putf hc_73 dX7_obeyRules_73 rfl fr_7_186 (by decide)
theorem x_73_76 {ls st : List Value} {h : Hp}  : ex 73 76 ls (st) h = gA (ldA ls 0) 73 77 ls st h := x_aload_n hc_73 dX7_obeyRules_76 rfl rfl
theorem x_73_77 {ls st : List Value} {h : Hp}  : ex 73 77 ls (st) h = ex 73 78 ls (.int (0) :: st) h := x_iconst hc_73 dX7_obeyRules_77 rfl (by decide)
theorem x_73_78 {ls st : List Value} {h : Hp}  : ex 73 78 ls (st) h = gI (ldI ls 3) 73 79 ls st h := x_iload_n hc_73 dX7_obeyRules_78 rfl rfl
theorem x_73_79 {ls st : List Value} {h : Hp} {k : Nat} {a0 : Int32} {a1 : Int32} : ex 73 79 ls (.int a1 :: .int a0 :: .ref k :: st) h = if kd k = 7 ∧ st.length ≤ 4 then gC (ex 74 0 [.ref k, .int a0, .int a1, .null, .null] [] h) 73 82 ls st else none := x_callV (as := [.int a0, .int a1]) hc_73 dX7_obeyRules_79 rfl mr_7_316 rfl rfl rfl (by decide) (by decide)
theorem x_73_82 {ls st : List Value} {h : Hp} {x : Int32} : ex 73 82 ls (.int x :: st) h = ex 73 84 (ls.set 6 (.int x)) st h := x_istore hc_73 dX7_obeyRules_82 rfl (by decide)
theorem x_73_84 {ls st : List Value} {h : Hp}  : ex 73 84 ls (st) h = ex 73 85 ls (.int (0) :: st) h := x_iconst hc_73 dX7_obeyRules_84 rfl (by decide)
theorem x_73_85 {ls st : List Value} {h : Hp}  : ex 73 85 ls (st) h = gI (ldI ls 6) 73 87 ls st h := x_iload hc_73 dX7_obeyRules_85 rfl
theorem x_73_87 {ls st : List Value} {h : Hp}  : ex 73 87 ls (st) h = ex 73 89 ls (.int (100) :: st) h := x_bipush hc_73 dX7_obeyRules_87 rfl (by decide)
theorem x_73_89 {ls st : List Value} {h : Hp} {a0 : Int32} {a1 : Int32} : ex 73 89 ls (.int a1 :: .int a0 :: st) h = if st.length ≤ 4 then gC (ex 148 0 [.int a0, .int a1] [] h) 73 92 ls st else none := x_callS (as := [.int a0, .int a1]) hc_73 dX7_obeyRules_89 rfl mr_7_276 rfl rfl rfl (by decide)
theorem x_73_92 {ls st : List Value} {h : Hp}  : ex 73 92 ls (st) h = gA (ldA ls 1) 73 93 ls st h := x_aload_n hc_73 dX7_obeyRules_92 rfl rfl
theorem x_73_93 {ls st : List Value} {h : Hp} {k : Nat} : ex 73 93 ls (.ref k :: st) h = if kd k = 0 then ex 73 96 ls (vl h k 4 :: st) h else none := x_getf hc_73 dX7_obeyRules_93 rfl fr_7_177
theorem x_73_96 {ls st : List Value} {h : Hp} {a b : Int32} : ex 73 96 ls (.int b :: .int a :: st) h = ex 73 97 ls (.int (a - b) :: st) h := x_isub hc_73 dX7_obeyRules_96 rfl
theorem x_73_97 {ls st : List Value} {h : Hp} {a0 : Int32} {a1 : Int32} : ex 73 97 ls (.int a1 :: .int a0 :: st) h = if st.length ≤ 4 then gC (ex 149 0 [.int a0, .int a1] [] h) 73 100 ls st else none := x_callS (as := [.int a0, .int a1]) hc_73 dX7_obeyRules_97 rfl mr_7_286 rfl rfl rfl (by decide)
theorem x_73_100 {ls st : List Value} {h : Hp} {x : Int32} : ex 73 100 ls (.int x :: st) h = ex 73 102 (ls.set 7 (.int x)) st h := x_istore hc_73 dX7_obeyRules_100 rfl (by decide)
theorem x_73_102 {ls st : List Value} {h : Hp}  : ex 73 102 ls (st) h = gA (ldA ls 1) 73 103 ls st h := x_aload_n hc_73 dX7_obeyRules_102 rfl rfl
theorem x_73_103 {ls st : List Value} {h : Hp}  : ex 73 103 ls (st) h = gA (ldA ls 2) 73 104 ls st h := x_aload_n hc_73 dX7_obeyRules_103 rfl rfl
theorem x_73_104 {ls st : List Value} {h : Hp}  : ex 73 104 ls (st) h = gA (ldA ls 1) 73 105 ls st h := x_aload_n hc_73 dX7_obeyRules_104 rfl rfl
theorem x_73_105 {ls st : List Value} {h : Hp}  : ex 73 105 ls (st) h = gI (ldI ls 7) 73 107 ls st h := x_iload hc_73 dX7_obeyRules_105 rfl
theorem x_73_107 {ls st : List Value} {h : Hp}  : ex 73 107 ls (st) h = gA (ldA ls 0) 73 108 ls st h := x_aload_n hc_73 dX7_obeyRules_107 rfl rfl
theorem x_73_108 {ls st : List Value} {h : Hp} {k : Nat} : ex 73 108 ls (.ref k :: st) h = if kd k = 7 then ex 73 111 ls (vl h k 0 :: st) h else none := x_getf hc_73 dX7_obeyRules_108 rfl fr_7_11
theorem x_73_111 {ls st : List Value} {h : Hp}  : ex 73 111 ls (st) h = gA (ldA ls 1) 73 112 ls st h := x_aload_n hc_73 dX7_obeyRules_111 rfl rfl
theorem x_73_112 {ls st : List Value} {h : Hp} {k : Nat} : ex 73 112 ls (.ref k :: st) h = if kd k = 0 then ex 73 115 ls (vl h k 6 :: st) h else none := x_getf hc_73 dX7_obeyRules_112 rfl fr_7_179
theorem x_73_115 {ls st : List Value} {h : Hp} {k : Nat} {x : Int32} : ex 73 115 ls (.int x :: .ref k :: st) h = if (11 ≤ kd k ∧ kd k ≤ 14) ∧ x.toNatClampNeg < ln k ∧ 0 ≤ x then gA (rf k x.toNatClampNeg) 73 116 ls st h else none := x_aald hc_73 dX7_obeyRules_115 rfl
theorem x_73_116 {ls st : List Value} {h : Hp} {k : Nat} : ex 73 116 ls (.ref k :: st) h = if kd k = 4 then ex 73 119 ls (vl h k 4 :: st) h else none := x_getf hc_73 dX7_obeyRules_116 rfl fr_7_116
theorem x_73_119 {ls st : List Value} {h : Hp} {k : Nat} {a0 : Nat} {a1 : Int32} {a2 : Int32} : ex 73 119 ls (.int a2 :: .int a1 :: .ref a0 :: .ref k :: st) h = if kd k = 1 ∧ st.length ≤ 4 then gC (ex 15 0 [.ref k, .ref a0, .int a1, .int a2, .null, .null] [] h) 73 122 ls st else none := x_callV (as := [.ref a0, .int a1, .int a2]) hc_73 dX7_obeyRules_119 rfl mr_7_320 rfl rfl rfl (by decide) (by decide)
theorem x_73_122 {ls st : List Value} {h : Hp}  : ex 73 122 ls (st) h = gI (ldI ls 7) 73 124 ls st h := x_iload hc_73 dX7_obeyRules_122 rfl
theorem x_73_124 {ls st : List Value} {h : Hp} {x z : Int32} : ex 73 124 ls (.int z :: .int x :: st) h = if x < z then ex 73 127 ls st h else ex 73 131 ls st h := x_icmp_ge hc_73 dX7_obeyRules_124 rfl (by decide)
theorem x_73_127 {ls st : List Value} {h : Hp}  : ex 73 127 ls (st) h = ex 73 128 ls (.int (1) :: st) h := x_iconst hc_73 dX7_obeyRules_127 rfl (by decide)
theorem x_73_128 {ls st : List Value} {h : Hp}  : ex 73 128 ls (st) h = ex 73 132 ls st h := x_goto hc_73 dX7_obeyRules_128 (by decide)
theorem x_73_131 {ls st : List Value} {h : Hp}  : ex 73 131 ls (st) h = ex 73 132 ls (.int (0) :: st) h := x_iconst hc_73 dX7_obeyRules_131 rfl (by decide)
theorem x_73_132 {ls st : List Value} {h : Hp} {k : Nat} {x : Int32} : ex 73 132 ls (.int x :: .ref k :: st) h = if kd k = 0 ∧ (x = 0 ∨ x = 1) then ex 73 135 ls st (hu h k 11 x) else none := x_putz hc_73 dX7_obeyRules_132 rfl fr_7_324 (by decide)
theorem x_73_135 {ls : List Value} {h : Hp} : ex 73 135 ls [] h = some (none, h) := x_vret hc_73 dX7_obeyRules_135 rfl
theorem x_74_0 {ls st : List Value} {h : Hp}  : ex 74 0 ls (st) h = gA (ldA ls 0) 74 1 ls st h := x_aload_n hc_74 dX7_lastThatHolds_0 rfl rfl
theorem x_74_1 {ls st : List Value} {h : Hp} {k : Nat} : ex 74 1 ls (.ref k :: st) h = if kd k = 7 then ex 74 4 ls (vl h k 13 :: st) h else none := x_getf hc_74 dX7_lastThatHolds_1 rfl fr_7_83
theorem x_74_4 {ls st : List Value} {h : Hp}  : ex 74 4 ls (st) h = ex 74 5 ls (.int (1) :: st) h := x_iconst hc_74 dX7_lastThatHolds_4 rfl (by decide)
theorem x_74_5 {ls st : List Value} {h : Hp} {a b : Int32} : ex 74 5 ls (.int b :: .int a :: st) h = ex 74 6 ls (.int (a - b) :: st) h := x_isub hc_74 dX7_lastThatHolds_5 rfl
theorem x_74_6 {ls st : List Value} {h : Hp} {x : Int32} : ex 74 6 ls (.int x :: st) h = ex 74 7 (ls.set 3 (.int x)) st h := x_istore_n hc_74 dX7_lastThatHolds_6 rfl rfl (by decide)
theorem x_74_7 {ls st : List Value} {h : Hp}  : ex 74 7 ls (st) h = gI (ldI ls 3) 74 8 ls st h := x_iload_n hc_74 dX7_lastThatHolds_7 rfl rfl
theorem x_74_8 {ls st : List Value} {h : Hp} {x : Int32} : ex 74 8 ls (.int x :: st) h = if x < 0 then ex 74 53 ls st h else ex 74 11 ls st h := x_if_lt hc_74 dX7_lastThatHolds_8 rfl (by decide)
theorem x_74_11 {ls st : List Value} {h : Hp}  : ex 74 11 ls (st) h = gA (ldA ls 0) 74 12 ls st h := x_aload_n hc_74 dX7_lastThatHolds_11 rfl rfl
theorem x_74_12 {ls st : List Value} {h : Hp} {k : Nat} : ex 74 12 ls (.ref k :: st) h = if kd k = 7 then ex 74 15 ls (vl h k 2 :: st) h else none := x_getf hc_74 dX7_lastThatHolds_12 rfl fr_7_23
theorem x_74_15 {ls st : List Value} {h : Hp}  : ex 74 15 ls (st) h = gI (ldI ls 3) 74 16 ls st h := x_iload_n hc_74 dX7_lastThatHolds_15 rfl rfl
theorem x_74_16 {ls st : List Value} {h : Hp} {k : Nat} {x : Int32} : ex 74 16 ls (.int x :: .ref k :: st) h = if (11 ≤ kd k ∧ kd k ≤ 14) ∧ x.toNatClampNeg < ln k ∧ 0 ≤ x then gA (rf k x.toNatClampNeg) 74 17 ls st h else none := x_aald hc_74 dX7_lastThatHolds_16 rfl
theorem x_74_17 {ls st : List Value} {h : Hp} {x : Nat} : ex 74 17 ls (.ref x :: st) h = ex 74 19 (ls.set 4 (.ref x)) st h := x_astore hc_74 dX7_lastThatHolds_17 rfl (by decide)
theorem x_74_19 {ls st : List Value} {h : Hp}  : ex 74 19 ls (st) h = gA (ldA ls 4) 74 21 ls st h := x_aload hc_74 dX7_lastThatHolds_19 rfl
theorem x_74_21 {ls st : List Value} {h : Hp} {k : Nat} : ex 74 21 ls (.ref k :: st) h = if kd k = 3 then ex 74 24 ls (vl h k 3 :: st) h else none := x_getf hc_74 dX7_lastThatHolds_21 rfl fr_7_327
theorem x_74_24 {ls st : List Value} {h : Hp}  : ex 74 24 ls (st) h = gI (ldI ls 1) 74 25 ls st h := x_iload_n hc_74 dX7_lastThatHolds_24 rfl rfl
theorem x_74_25 {ls st : List Value} {h : Hp} {x z : Int32} : ex 74 25 ls (.int z :: .int x :: st) h = if x = z then ex 74 28 ls st h else ex 74 47 ls st h := x_icmp_ne hc_74 dX7_lastThatHolds_25 rfl (by decide)
theorem x_74_28 {ls st : List Value} {h : Hp}  : ex 74 28 ls (st) h = gA (ldA ls 4) 74 30 ls st h := x_aload hc_74 dX7_lastThatHolds_28 rfl
theorem x_74_30 {ls st : List Value} {h : Hp}  : ex 74 30 ls (st) h = gA (ldA ls 0) 74 31 ls st h := x_aload_n hc_74 dX7_lastThatHolds_30 rfl rfl
theorem x_74_31 {ls st : List Value} {h : Hp} {k : Nat} : ex 74 31 ls (.ref k :: st) h = if kd k = 7 then ex 74 34 ls (vl h k 7 :: st) h else none := x_getf hc_74 dX7_lastThatHolds_31 rfl fr_7_60
theorem x_74_34 {ls st : List Value} {h : Hp}  : ex 74 34 ls (st) h = gI (ldI ls 2) 74 35 ls st h := x_iload_n hc_74 dX7_lastThatHolds_34 rfl rfl
theorem x_74_35 {ls st : List Value} {h : Hp} {k : Nat} {a0 : Nat} {a1 : Int32} : ex 74 35 ls (.int a1 :: .ref a0 :: .ref k :: st) h = if kd k = 3 ∧ st.length ≤ 4 then gC (ex 18 0 [.ref k, .ref a0, .int a1, .null] [] h) 74 38 ls st else none := x_callV (as := [.ref a0, .int a1]) hc_74 dX7_lastThatHolds_35 rfl mr_7_330 rfl rfl rfl (by decide) (by decide)
theorem x_74_38 {ls st : List Value} {h : Hp} {x : Int32} : ex 74 38 ls (.int x :: st) h = if x = 0 then ex 74 47 ls st h else ex 74 41 ls st h := x_if_eq hc_74 dX7_lastThatHolds_38 rfl (by decide)
theorem x_74_41 {ls st : List Value} {h : Hp}  : ex 74 41 ls (st) h = gA (ldA ls 4) 74 43 ls st h := x_aload hc_74 dX7_lastThatHolds_41 rfl
theorem x_74_43 {ls st : List Value} {h : Hp} {k : Nat} : ex 74 43 ls (.ref k :: st) h = if kd k = 3 then ex 74 46 ls (vl h k 4 :: st) h else none := x_getf hc_74 dX7_lastThatHolds_43 rfl fr_7_334
theorem x_74_46 {ls : List Value} {h : Hp} {v : Int32} : ex 74 46 ls [.int v] h = some (some (.int v), h) := x_iret hc_74 dX7_lastThatHolds_46 rfl
theorem x_74_47 {ls st : List Value} {h : Hp}  : ex 74 47 ls (st) h = gN (ldI ls 3) 74 50 ls 3 (-1) st h := x_iinc hc_74 dX7_lastThatHolds_47 rfl (by decide) (by decide)
theorem x_74_50 {ls st : List Value} {h : Hp}  : ex 74 50 ls (st) h = ex 74 7 ls st h := x_goto hc_74 dX7_lastThatHolds_50 (by decide)
theorem x_74_53 {ls st : List Value} {h : Hp}  : ex 74 53 ls (st) h = ex 74 54 ls (.int (-1) :: st) h := x_iconst hc_74 dX7_lastThatHolds_53 rfl (by decide)
theorem x_74_54 {ls : List Value} {h : Hp} {v : Int32} : ex 74 54 ls [.int v] h = some (some (.int v), h) := x_iret hc_74 dX7_lastThatHolds_54 rfl
theorem x_75_0 {ls st : List Value} {h : Hp}  : ex 75 0 ls (st) h = gA (ldA ls 1) 75 1 ls st h := x_aload_n hc_75 dX7_moveOn_0 rfl rfl
theorem x_75_1 {ls st : List Value} {h : Hp} {k : Nat}  : ex 75 1 ls (.ref k :: st) h = if kd k = 0 ∧ st.length ≤ 4 then gC (ex 2 0 [.ref k] [] h) 75 4 ls st else none := x_callV (as := []) hc_75 dX7_moveOn_1 rfl mr_7_174 rfl rfl rfl (by decide) (by decide)
theorem x_75_4 {ls st : List Value} {h : Hp} {x : Int32} : ex 75 4 ls (.int x :: st) h = if x = 0 then ex 75 7 ls st h else ex 75 45 ls st h := x_if_ne hc_75 dX7_moveOn_4 rfl (by decide)
theorem x_75_7 {ls st : List Value} {h : Hp}  : ex 75 7 ls (st) h = gA (ldA ls 1) 75 8 ls st h := x_aload_n hc_75 dX7_moveOn_7 rfl rfl
theorem x_75_8 {ls st : List Value} {h : Hp} {k : Nat} : ex 75 8 ls (.ref k :: st) h = if kd k = 0 then ex 75 11 ls (vl h k 9 :: st) h else none := x_getf hc_75 dX7_moveOn_8 rfl fr_7_209
theorem x_75_11 {ls st : List Value} {h : Hp} {x : Int32} : ex 75 11 ls (.int x :: st) h = if 0 < x then ex 75 14 ls st h else ex 75 27 ls st h := x_if_le hc_75 dX7_moveOn_11 rfl (by decide)
theorem x_75_14 {ls st : List Value} {h : Hp}  : ex 75 14 ls (st) h = gA (ldA ls 1) 75 15 ls st h := x_aload_n hc_75 dX7_moveOn_14 rfl rfl
theorem x_75_15i {ls st : List Value} {h : Hp} {u : Int32} : ex 75 15 ls (.int u :: st) h = ex 75 16 ls (.int u :: .int u :: st) h := x_dup_i hc_75 dX7_moveOn_15 rfl
theorem x_75_15a {ls st : List Value} {h : Hp} {u : Nat} : ex 75 15 ls (.ref u :: st) h = ex 75 16 ls (.ref u :: .ref u :: st) h := x_dup_a hc_75 dX7_moveOn_15 rfl
theorem x_75_16 {ls st : List Value} {h : Hp} {k : Nat} : ex 75 16 ls (.ref k :: st) h = if kd k = 0 then ex 75 19 ls (vl h k 9 :: st) h else none := x_getf hc_75 dX7_moveOn_16 rfl fr_7_209
theorem x_75_19 {ls st : List Value} {h : Hp}  : ex 75 19 ls (st) h = ex 75 20 ls (.int (1) :: st) h := x_iconst hc_75 dX7_moveOn_19 rfl (by decide)
theorem x_75_20 {ls st : List Value} {h : Hp} {a b : Int32} : ex 75 20 ls (.int b :: .int a :: st) h = ex 75 21 ls (.int (a - b) :: st) h := x_isub hc_75 dX7_moveOn_20 rfl
theorem x_75_21 {ls st : List Value} {h : Hp} {k : Nat} {x : Int32} : ex 75 21 ls (.int x :: .ref k :: st) h = if kd k = 0 then ex 75 24 ls st (hu h k 9 x) else none := x_putf hc_75 dX7_moveOn_21 rfl fr_7_209 (by decide)
theorem x_75_24 {ls st : List Value} {h : Hp}  : ex 75 24 ls (st) h = ex 75 43 ls st h := x_goto hc_75 dX7_moveOn_24 (by decide)
theorem x_75_27 {ls st : List Value} {h : Hp}  : ex 75 27 ls (st) h = gA (ldA ls 1) 75 28 ls st h := x_aload_n hc_75 dX7_moveOn_27 rfl rfl
theorem x_75_28 {ls st : List Value} {h : Hp}  : ex 75 28 ls (st) h = gA (ldA ls 0) 75 29 ls st h := x_aload_n hc_75 dX7_moveOn_28 rfl rfl
theorem x_75_29 {ls st : List Value} {h : Hp}  : ex 75 29 ls (st) h = gA (ldA ls 1) 75 30 ls st h := x_aload_n hc_75 dX7_moveOn_29 rfl rfl
theorem x_75_30 {ls st : List Value} {h : Hp} {k : Nat} : ex 75 30 ls (.ref k :: st) h = if kd k = 0 then ex 75 33 ls (vl h k 6 :: st) h else none := x_getf hc_75 dX7_moveOn_30 rfl fr_7_179
theorem x_75_33 {ls st : List Value} {h : Hp}  : ex 75 33 ls (st) h = gA (ldA ls 1) 75 34 ls st h := x_aload_n hc_75 dX7_moveOn_33 rfl rfl
theorem x_75_34 {ls st : List Value} {h : Hp} {k : Nat}  : ex 75 34 ls (.ref k :: st) h = if kd k = 0 ∧ st.length ≤ 4 then gC (ex 5 0 [.ref k] [] h) 75 37 ls st else none := x_callV (as := []) hc_75 dX7_moveOn_34 rfl mr_7_282 rfl rfl rfl (by decide) (by decide)
theorem x_75_37 {ls st : List Value} {h : Hp} {k : Nat} {a0 : Int32} {a1 : Int32} : ex 75 37 ls (.int a1 :: .int a0 :: .ref k :: st) h = if kd k = 7 ∧ st.length ≤ 4 then gC (ex 76 0 [.ref k, .int a0, .int a1] [] h) 75 40 ls st else none := x_callV (as := [.int a0, .int a1]) hc_75 dX7_moveOn_37 rfl mr_7_335 rfl rfl rfl (by decide) (by decide)
theorem x_75_40 {ls st : List Value} {h : Hp} {k : Nat} {x : Int32} : ex 75 40 ls (.int x :: .ref k :: st) h = if kd k = 0 then ex 75 43 ls st (hu h k 8 x) else none := x_putf hc_75 dX7_moveOn_40 rfl fr_7_206 (by decide)
theorem x_75_43 {ls st : List Value} {h : Hp}  : ex 75 43 ls (st) h = ex 75 44 ls (.int (0) :: st) h := x_iconst hc_75 dX7_moveOn_43 rfl (by decide)
theorem x_75_44 {ls : List Value} {h : Hp} {v : Int32} : ex 75 44 ls [.int v] h = if v = 0 ∨ v = 1 then some (some (.int v), h) else none := x_zret hc_75 dX7_moveOn_44 rfl
theorem x_75_45 {ls st : List Value} {h : Hp}  : ex 75 45 ls (st) h = gA (ldA ls 1) 75 46 ls st h := x_aload_n hc_75 dX7_moveOn_45 rfl rfl
theorem x_75_46 {ls st : List Value} {h : Hp} {k : Nat}  : ex 75 46 ls (.ref k :: st) h = if kd k = 0 ∧ st.length ≤ 4 then gC (ex 5 0 [.ref k] [] h) 75 49 ls st else none := x_callV (as := []) hc_75 dX7_moveOn_46 rfl mr_7_282 rfl rfl rfl (by decide) (by decide)
theorem x_75_49 {ls st : List Value} {h : Hp} {x : Int32} : ex 75 49 ls (.int x :: st) h = ex 75 50 (ls.set 2 (.int x)) st h := x_istore_n hc_75 dX7_moveOn_49 rfl rfl (by decide)
theorem x_75_50 {ls st : List Value} {h : Hp}  : ex 75 50 ls (st) h = gA (ldA ls 1) 75 51 ls st h := x_aload_n hc_75 dX7_moveOn_50 rfl rfl
theorem x_75_51i {ls st : List Value} {h : Hp} {u : Int32} : ex 75 51 ls (.int u :: st) h = ex 75 52 ls (.int u :: .int u :: st) h := x_dup_i hc_75 dX7_moveOn_51 rfl
theorem x_75_51a {ls st : List Value} {h : Hp} {u : Nat} : ex 75 51 ls (.ref u :: st) h = ex 75 52 ls (.ref u :: .ref u :: st) h := x_dup_a hc_75 dX7_moveOn_51 rfl
theorem x_75_52 {ls st : List Value} {h : Hp} {k : Nat} : ex 75 52 ls (.ref k :: st) h = if kd k = 0 then ex 75 55 ls (vl h k 8 :: st) h else none := x_getf hc_75 dX7_moveOn_52 rfl fr_7_206
theorem x_75_55 {ls st : List Value} {h : Hp}  : ex 75 55 ls (st) h = ex 75 56 ls (.int (1) :: st) h := x_iconst hc_75 dX7_moveOn_55 rfl (by decide)
theorem x_75_56 {ls st : List Value} {h : Hp} {a b : Int32} : ex 75 56 ls (.int b :: .int a :: st) h = ex 75 57 ls (.int (a - b) :: st) h := x_isub hc_75 dX7_moveOn_56 rfl
theorem x_75_57 {ls st : List Value} {h : Hp} {k : Nat} {x : Int32} : ex 75 57 ls (.int x :: .ref k :: st) h = if kd k = 0 then ex 75 60 ls st (hu h k 8 x) else none := x_putf hc_75 dX7_moveOn_57 rfl fr_7_206 (by decide)
theorem x_75_60 {ls st : List Value} {h : Hp}  : ex 75 60 ls (st) h = gA (ldA ls 1) 75 61 ls st h := x_aload_n hc_75 dX7_moveOn_60 rfl rfl
theorem x_75_61 {ls st : List Value} {h : Hp} {k : Nat}  : ex 75 61 ls (.ref k :: st) h = if kd k = 0 ∧ st.length ≤ 4 then gC (ex 2 0 [.ref k] [] h) 75 64 ls st else none := x_callV (as := []) hc_75 dX7_moveOn_61 rfl mr_7_174 rfl rfl rfl (by decide) (by decide)
theorem x_75_64 {ls st : List Value} {h : Hp} {x : Int32} : ex 75 64 ls (.int x :: st) h = if x = 0 then ex 75 69 ls st h else ex 75 67 ls st h := x_if_eq hc_75 dX7_moveOn_64 rfl (by decide)
theorem x_75_67 {ls st : List Value} {h : Hp}  : ex 75 67 ls (st) h = ex 75 68 ls (.int (0) :: st) h := x_iconst hc_75 dX7_moveOn_67 rfl (by decide)
theorem x_75_68 {ls : List Value} {h : Hp} {v : Int32} : ex 75 68 ls [.int v] h = if v = 0 ∨ v = 1 then some (some (.int v), h) else none := x_zret hc_75 dX7_moveOn_68 rfl
theorem x_75_69 {ls st : List Value} {h : Hp}  : ex 75 69 ls (st) h = gA (ldA ls 1) 75 70 ls st h := x_aload_n hc_75 dX7_moveOn_69 rfl rfl
theorem x_75_70 {ls st : List Value} {h : Hp}  : ex 75 70 ls (st) h = gI (ldI ls 2) 75 71 ls st h := x_iload_n hc_75 dX7_moveOn_70 rfl rfl
theorem x_75_71 {ls st : List Value} {h : Hp} {k : Nat} {x : Int32} : ex 75 71 ls (.int x :: .ref k :: st) h = if kd k = 0 then ex 75 74 ls st (hu h k 6 x) else none := x_putf hc_75 dX7_moveOn_71 rfl fr_7_179 (by decide)
theorem x_75_74 {ls st : List Value} {h : Hp}  : ex 75 74 ls (st) h = gI (ldI ls 2) 75 75 ls st h := x_iload_n hc_75 dX7_moveOn_74 rfl rfl
theorem x_75_75 {ls st : List Value} {h : Hp}  : ex 75 75 ls (st) h = gA (ldA ls 1) 75 76 ls st h := x_aload_n hc_75 dX7_moveOn_75 rfl rfl
theorem x_75_76 {ls st : List Value} {h : Hp} {k : Nat} : ex 75 76 ls (.ref k :: st) h = if kd k = 0 then ex 75 79 ls (vl h k 7 :: st) h else none := x_getf hc_75 dX7_moveOn_76 rfl fr_7_203
theorem x_75_79 {ls st : List Value} {h : Hp} {x z : Int32} : ex 75 79 ls (.int z :: .int x :: st) h = if x = z then ex 75 82 ls st h else ex 75 94 ls st h := x_icmp_ne hc_75 dX7_moveOn_79 rfl (by decide)
theorem x_75_82 {ls st : List Value} {h : Hp}  : ex 75 82 ls (st) h = gA (ldA ls 1) 75 83 ls st h := x_aload_n hc_75 dX7_moveOn_82 rfl rfl
theorem x_75_83 {ls st : List Value} {h : Hp}  : ex 75 83 ls (st) h = ex 75 84 ls (.int (-1) :: st) h := x_iconst hc_75 dX7_moveOn_83 rfl (by decide)
theorem x_75_84 {ls st : List Value} {h : Hp} {k : Nat} {x : Int32} : ex 75 84 ls (.int x :: .ref k :: st) h = if kd k = 0 then ex 75 87 ls st (hu h k 7 x) else none := x_putf hc_75 dX7_moveOn_84 rfl fr_7_203 (by decide)
theorem x_75_87 {ls st : List Value} {h : Hp}  : ex 75 87 ls (st) h = gA (ldA ls 1) 75 88 ls st h := x_aload_n hc_75 dX7_moveOn_87 rfl rfl
theorem x_75_88 {ls st : List Value} {h : Hp}  : ex 75 88 ls (st) h = ex 75 89 ls (.int (1) :: st) h := x_iconst hc_75 dX7_moveOn_88 rfl (by decide)
theorem x_75_89 {ls st : List Value} {h : Hp} {k : Nat} {x : Int32} : ex 75 89 ls (.int x :: .ref k :: st) h = if kd k = 0 ∧ (x = 0 ∨ x = 1) then ex 75 92 ls st (hu h k 12 x) else none := x_putz hc_75 dX7_moveOn_89 rfl fr_7_215 (by decide)
theorem x_75_92 {ls st : List Value} {h : Hp}  : ex 75 92 ls (st) h = ex 75 93 ls (.int (1) :: st) h := x_iconst hc_75 dX7_moveOn_92 rfl (by decide)
theorem x_75_93 {ls : List Value} {h : Hp} {v : Int32} : ex 75 93 ls [.int v] h = if v = 0 ∨ v = 1 then some (some (.int v), h) else none := x_zret hc_75 dX7_moveOn_93 rfl
theorem x_75_94 {ls st : List Value} {h : Hp}  : ex 75 94 ls (st) h = gA (ldA ls 1) 75 95 ls st h := x_aload_n hc_75 dX7_moveOn_94 rfl rfl
theorem x_75_95 {ls st : List Value} {h : Hp}  : ex 75 95 ls (st) h = gA (ldA ls 0) 75 96 ls st h := x_aload_n hc_75 dX7_moveOn_95 rfl rfl
theorem x_75_96 {ls st : List Value} {h : Hp} {k : Nat} : ex 75 96 ls (.ref k :: st) h = if kd k = 7 then ex 75 99 ls (vl h k 0 :: st) h else none := x_getf hc_75 dX7_moveOn_96 rfl fr_7_11
theorem x_75_99 {ls st : List Value} {h : Hp}  : ex 75 99 ls (st) h = gI (ldI ls 2) 75 100 ls st h := x_iload_n hc_75 dX7_moveOn_99 rfl rfl
theorem x_75_100 {ls st : List Value} {h : Hp} {k : Nat} {x : Int32} : ex 75 100 ls (.int x :: .ref k :: st) h = if (11 ≤ kd k ∧ kd k ≤ 14) ∧ x.toNatClampNeg < ln k ∧ 0 ≤ x then gA (rf k x.toNatClampNeg) 75 101 ls st h else none := x_aald hc_75 dX7_moveOn_100 rfl
theorem x_75_101 {ls st : List Value} {h : Hp} {k : Nat} : ex 75 101 ls (.ref k :: st) h = if kd k = 4 then ex 75 104 ls (vl h k 6 :: st) h else none := x_getf hc_75 dX7_moveOn_101 rfl fr_7_192
theorem x_75_104 {ls st : List Value} {h : Hp} {k : Nat} {x : Int32} : ex 75 104 ls (.int x :: .ref k :: st) h = if kd k = 0 then ex 75 107 ls st (hu h k 9 x) else none := x_putf hc_75 dX7_moveOn_104 rfl fr_7_209 (by decide)
theorem x_75_107 {ls st : List Value} {h : Hp}  : ex 75 107 ls (st) h = ex 75 108 ls (.int (0) :: st) h := x_iconst hc_75 dX7_moveOn_107 rfl (by decide)
theorem x_75_108 {ls : List Value} {h : Hp} {v : Int32} : ex 75 108 ls [.int v] h = if v = 0 ∨ v = 1 then some (some (.int v), h) else none := x_zret hc_75 dX7_moveOn_108 rfl
theorem x_76_0 {ls st : List Value} {h : Hp}  : ex 76 0 ls (st) h = gA (ldA ls 0) 76 1 ls st h := x_aload_n hc_76 dX7_legBetween_0 rfl rfl
theorem x_76_1 {ls st : List Value} {h : Hp} {k : Nat} : ex 76 1 ls (.ref k :: st) h = if kd k = 7 then ex 76 4 ls (vl h k 0 :: st) h else none := x_getf hc_76 dX7_legBetween_1 rfl fr_7_11
theorem x_76_4 {ls st : List Value} {h : Hp}  : ex 76 4 ls (st) h = gI (ldI ls 1) 76 5 ls st h := x_iload_n hc_76 dX7_legBetween_4 rfl rfl
theorem x_76_5 {ls st : List Value} {h : Hp}  : ex 76 5 ls (st) h = gI (ldI ls 2) 76 6 ls st h := x_iload_n hc_76 dX7_legBetween_5 rfl rfl
theorem x_76_6 {ls st : List Value} {h : Hp} {a0 : Int32} {a1 : Int32} : ex 76 6 ls (.int a1 :: .int a0 :: st) h = if st.length ≤ 4 then gC (ex 148 0 [.int a0, .int a1] [] h) 76 9 ls st else none := x_callS (as := [.int a0, .int a1]) hc_76 dX7_legBetween_6 rfl mr_7_276 rfl rfl rfl (by decide)
theorem x_76_9 {ls st : List Value} {h : Hp} {k : Nat} {x : Int32} : ex 76 9 ls (.int x :: .ref k :: st) h = if (11 ≤ kd k ∧ kd k ≤ 14) ∧ x.toNatClampNeg < ln k ∧ 0 ≤ x then gA (rf k x.toNatClampNeg) 76 10 ls st h else none := x_aald hc_76 dX7_legBetween_9 rfl
theorem x_76_10 {ls st : List Value} {h : Hp} {k : Nat} : ex 76 10 ls (.ref k :: st) h = if kd k = 4 then ex 76 13 ls (vl h k 7 :: st) h else none := x_getf hc_76 dX7_legBetween_10 rfl fr_7_97
theorem x_76_13 {ls : List Value} {h : Hp} {v : Int32} : ex 76 13 ls [.int v] h = some (some (.int v), h) := x_iret hc_76 dX7_legBetween_13 rfl
theorem x_77_0 {ls st : List Value} {h : Hp}  : ex 77 0 ls (st) h = gA (ldA ls 0) 77 1 ls st h := x_aload_n hc_77 dX7_sell_0 rfl rfl
theorem x_77_1 {ls st : List Value} {h : Hp}  : ex 77 1 ls (st) h = gI (ldI ls 1) 77 2 ls st h := x_iload_n hc_77 dX7_sell_1 rfl rfl
theorem x_77_2 {ls st : List Value} {h : Hp} {k : Nat} {a0 : Int32} : ex 77 2 ls (.int a0 :: .ref k :: st) h = if kd k = 7 ∧ st.length ≤ 4 then gC (ex 58 0 [.ref k, .int a0] [] h) 77 5 ls st else none := x_callV (as := [.int a0]) hc_77 dX7_sell_2 rfl mr_7_148 rfl rfl rfl (by decide) (by decide)
theorem x_77_5 {ls st : List Value} {h : Hp} {x : Int32} : ex 77 5 ls (.int x :: st) h = if x = 0 then ex 77 8 ls st h else ex 77 15 ls st h := x_if_ne hc_77 dX7_sell_5 rfl (by decide)
theorem x_77_8 {ls st : List Value} {h : Hp}  : ex 77 8 ls (st) h = gA (ldA ls 0) 77 9 ls st h := x_aload_n hc_77 dX7_sell_8 rfl rfl
theorem x_77_9 {ls st : List Value} {h : Hp}  : ex 77 9 ls (st) h = ex 77 11 ls (.int (-3) :: st) h := x_bipush hc_77 dX7_sell_9 rfl (by decide)
theorem x_77_11 {ls st : List Value} {h : Hp} {k : Nat} {a0 : Int32} : ex 77 11 ls (.int a0 :: .ref k :: st) h = if kd k = 7 ∧ st.length ≤ 4 then gC (ex 45 0 [.ref k, .int a0] [] h) 77 14 ls st else none := x_callV (as := [.int a0]) hc_77 dX7_sell_11 rfl mr_7_104 rfl rfl rfl (by decide) (by decide)
theorem x_77_14 {ls : List Value} {h : Hp} {v : Int32} : ex 77 14 ls [.int v] h = some (some (.int v), h) := x_iret hc_77 dX7_sell_14 rfl
theorem x_77_15 {ls st : List Value} {h : Hp}  : ex 77 15 ls (st) h = gA (ldA ls 0) 77 16 ls st h := x_aload_n hc_77 dX7_sell_15 rfl rfl
theorem x_77_16 {ls st : List Value} {h : Hp} {k : Nat} : ex 77 16 ls (.ref k :: st) h = if kd k = 7 then ex 77 19 ls (vl h k 1 :: st) h else none := x_getf hc_77 dX7_sell_16 rfl fr_7_17
theorem x_77_19 {ls st : List Value} {h : Hp}  : ex 77 19 ls (st) h = gI (ldI ls 1) 77 20 ls st h := x_iload_n hc_77 dX7_sell_19 rfl rfl
theorem x_77_20 {ls st : List Value} {h : Hp} {k : Nat} {x : Int32} : ex 77 20 ls (.int x :: .ref k :: st) h = if (11 ≤ kd k ∧ kd k ≤ 14) ∧ x.toNatClampNeg < ln k ∧ 0 ≤ x then gA (rf k x.toNatClampNeg) 77 21 ls st h else none := x_aald hc_77 dX7_sell_20 rfl
theorem x_77_21 {ls st : List Value} {h : Hp} {x : Nat} : ex 77 21 ls (.ref x :: st) h = ex 77 22 (ls.set 2 (.ref x)) st h := x_astore_n hc_77 dX7_sell_21 rfl rfl (by decide)
theorem x_77_22 {ls st : List Value} {h : Hp}  : ex 77 22 ls (st) h = gA (ldA ls 0) 77 23 ls st h := x_aload_n hc_77 dX7_sell_22 rfl rfl
theorem x_77_23 {ls st : List Value} {h : Hp} {k : Nat} : ex 77 23 ls (.ref k :: st) h = if kd k = 7 then ex 77 26 ls (vl h k 0 :: st) h else none := x_getf hc_77 dX7_sell_23 rfl fr_7_11
theorem x_77_26 {ls st : List Value} {h : Hp}  : ex 77 26 ls (st) h = gA (ldA ls 2) 77 27 ls st h := x_aload_n hc_77 dX7_sell_26 rfl rfl
theorem x_77_27 {ls st : List Value} {h : Hp} {k : Nat} : ex 77 27 ls (.ref k :: st) h = if kd k = 0 then ex 77 30 ls (vl h k 6 :: st) h else none := x_getf hc_77 dX7_sell_27 rfl fr_7_179
theorem x_77_30 {ls st : List Value} {h : Hp} {k : Nat} {x : Int32} : ex 77 30 ls (.int x :: .ref k :: st) h = if (11 ≤ kd k ∧ kd k ≤ 14) ∧ x.toNatClampNeg < ln k ∧ 0 ≤ x then gA (rf k x.toNatClampNeg) 77 31 ls st h else none := x_aald hc_77 dX7_sell_30 rfl
theorem x_77_31 {ls st : List Value} {h : Hp} {x : Nat} : ex 77 31 ls (.ref x :: st) h = ex 77 32 (ls.set 3 (.ref x)) st h := x_astore_n hc_77 dX7_sell_31 rfl rfl (by decide)
theorem x_77_32 {ls st : List Value} {h : Hp}  : ex 77 32 ls (st) h = gA (ldA ls 2) 77 33 ls st h := x_aload_n hc_77 dX7_sell_32 rfl rfl
theorem x_77_33 {ls st : List Value} {h : Hp} {k : Nat} : ex 77 33 ls (.ref k :: st) h = if kd k = 0 then ex 77 36 ls (vl h k 12 :: st) h else none := x_getf hc_77 dX7_sell_33 rfl fr_7_215
theorem x_77_36 {ls st : List Value} {h : Hp} {x : Int32} : ex 77 36 ls (.int x :: st) h = if x = 0 then ex 77 46 ls st h else ex 77 39 ls st h := x_if_eq hc_77 dX7_sell_36 rfl (by decide)
theorem x_77_39 {ls st : List Value} {h : Hp}  : ex 77 39 ls (st) h = gA (ldA ls 3) 77 40 ls st h := x_aload_n hc_77 dX7_sell_39 rfl rfl
theorem x_77_40 {ls st : List Value} {h : Hp} {k : Nat} : ex 77 40 ls (.ref k :: st) h = if kd k = 4 then ex 77 43 ls (vl h k 5 :: st) h else none := x_getf hc_77 dX7_sell_40 rfl fr_7_119
theorem x_77_43 {ls st : List Value} {h : Hp} {x : Int32} : ex 77 43 ls (.int x :: st) h = if x = 0 then ex 77 46 ls st h else ex 77 53 ls st h := x_if_ne hc_77 dX7_sell_43 rfl (by decide)
theorem x_77_46 {ls st : List Value} {h : Hp}  : ex 77 46 ls (st) h = gA (ldA ls 0) 77 47 ls st h := x_aload_n hc_77 dX7_sell_46 rfl rfl
theorem x_77_47 {ls st : List Value} {h : Hp}  : ex 77 47 ls (st) h = ex 77 49 ls (.int (-7) :: st) h := x_bipush hc_77 dX7_sell_47 rfl (by decide)
theorem x_77_49 {ls st : List Value} {h : Hp} {k : Nat} {a0 : Int32} : ex 77 49 ls (.int a0 :: .ref k :: st) h = if kd k = 7 ∧ st.length ≤ 4 then gC (ex 45 0 [.ref k, .int a0] [] h) 77 52 ls st else none := x_callV (as := [.int a0]) hc_77 dX7_sell_49 rfl mr_7_104 rfl rfl rfl (by decide) (by decide)
theorem x_77_52 {ls : List Value} {h : Hp} {v : Int32} : ex 77 52 ls [.int v] h = some (some (.int v), h) := x_iret hc_77 dX7_sell_52 rfl
theorem x_77_53 {ls st : List Value} {h : Hp}  : ex 77 53 ls (st) h = gA (ldA ls 3) 77 54 ls st h := x_aload_n hc_77 dX7_sell_53 rfl rfl
theorem x_77_54 {ls st : List Value} {h : Hp}  : ex 77 54 ls (st) h = gA (ldA ls 2) 77 55 ls st h := x_aload_n hc_77 dX7_sell_54 rfl rfl
theorem x_77_55 {ls st : List Value} {h : Hp}  : ex 77 55 ls (st) h = gA (ldA ls 0) 77 56 ls st h := x_aload_n hc_77 dX7_sell_55 rfl rfl
theorem x_77_56 {ls st : List Value} {h : Hp} {k : Nat} : ex 77 56 ls (.ref k :: st) h = if kd k = 7 then ex 77 59 ls (vl h k 14 :: st) h else none := x_getf hc_77 dX7_sell_56 rfl fr_7_86
theorem x_77_59 {ls st : List Value} {h : Hp} {k : Nat} {a0 : Nat} {a1 : Int32} : ex 77 59 ls (.int a1 :: .ref a0 :: .ref k :: st) h = if kd k = 4 ∧ st.length ≤ 4 then gC (ex 22 0 [.ref k, .ref a0, .int a1, .null, .null] [] h) 77 62 ls st else none := x_callV (as := [.ref a0, .int a1]) hc_77 dX7_sell_59 rfl mr_7_241 rfl rfl rfl (by decide) (by decide)
theorem x_77_62 {ls st : List Value} {h : Hp} {x : Int32} : ex 77 62 ls (.int x :: st) h = ex 77 64 (ls.set 4 (.int x)) st h := x_istore hc_77 dX7_sell_62 rfl (by decide)
theorem x_77_64 {ls st : List Value} {h : Hp}  : ex 77 64 ls (st) h = gA (ldA ls 3) 77 65 ls st h := x_aload_n hc_77 dX7_sell_64 rfl rfl
theorem x_77_65 {ls st : List Value} {h : Hp}  : ex 77 65 ls (st) h = gA (ldA ls 0) 77 66 ls st h := x_aload_n hc_77 dX7_sell_65 rfl rfl
theorem x_77_66 {ls st : List Value} {h : Hp} {k : Nat} : ex 77 66 ls (.ref k :: st) h = if kd k = 7 then ex 77 69 ls (vl h k 14 :: st) h else none := x_getf hc_77 dX7_sell_66 rfl fr_7_86
theorem x_77_69 {ls st : List Value} {h : Hp} {k : Nat} {a0 : Int32} : ex 77 69 ls (.int a0 :: .ref k :: st) h = if kd k = 4 ∧ st.length ≤ 4 then gC (ex 24 0 [.ref k, .int a0, .null] [] h) 77 72 ls st else none := x_callV (as := [.int a0]) hc_77 dX7_sell_69 rfl mr_7_245 rfl rfl rfl (by decide) (by decide)
theorem x_77_72 {ls st : List Value} {h : Hp}  : ex 77 72 ls (st) h = gA (ldA ls 2) 77 73 ls st h := x_aload_n hc_77 dX7_sell_72 rfl rfl
theorem x_77_73 {ls st : List Value} {h : Hp} {k : Nat}  : ex 77 73 ls (.ref k :: st) h = if kd k = 0 ∧ st.length ≤ 4 then gC (ex 11 0 [.ref k, .null] [] h) 77 76 ls st else none := x_callV (as := []) hc_77 dX7_sell_73 rfl mr_7_248 rfl rfl rfl (by decide) (by decide)
theorem x_77_76 {ls st : List Value} {h : Hp}  : ex 77 76 ls (st) h = gA (ldA ls 2) 77 77 ls st h := x_aload_n hc_77 dX7_sell_76 rfl rfl
theorem x_77_77 {ls st : List Value} {h : Hp}  : ex 77 77 ls (st) h = ex 77 78 ls (.int (0) :: st) h := x_iconst hc_77 dX7_sell_77 rfl (by decide)
theorem x_77_78 {ls st : List Value} {h : Hp} {k : Nat} {x : Int32} : ex 77 78 ls (.int x :: .ref k :: st) h = if kd k = 0 ∧ (x = 0 ∨ x = 1) then ex 77 81 ls st (hu h k 12 x) else none := x_putz hc_77 dX7_sell_78 rfl fr_7_215 (by decide)
theorem x_77_81 {ls st : List Value} {h : Hp}  : ex 77 81 ls (st) h = gA (ldA ls 0) 77 82 ls st h := x_aload_n hc_77 dX7_sell_81 rfl rfl
theorem x_77_82i {ls st : List Value} {h : Hp} {u : Int32} : ex 77 82 ls (.int u :: st) h = ex 77 83 ls (.int u :: .int u :: st) h := x_dup_i hc_77 dX7_sell_82 rfl
theorem x_77_82a {ls st : List Value} {h : Hp} {u : Nat} : ex 77 82 ls (.ref u :: st) h = ex 77 83 ls (.ref u :: .ref u :: st) h := x_dup_a hc_77 dX7_sell_82 rfl
theorem x_77_83 {ls st : List Value} {h : Hp} {k : Nat} : ex 77 83 ls (.ref k :: st) h = if kd k = 7 then ex 77 86 ls (vl h k 15 :: st) h else none := x_getf hc_77 dX7_sell_83 rfl fr_7_89
theorem x_77_86 {ls st : List Value} {h : Hp}  : ex 77 86 ls (st) h = ex 77 87 ls (.int (1) :: st) h := x_iconst hc_77 dX7_sell_86 rfl (by decide)
theorem x_77_87 {ls st : List Value} {h : Hp} {a b : Int32} : ex 77 87 ls (.int b :: .int a :: st) h = ex 77 88 ls (.int (a + b) :: st) h := x_iadd hc_77 dX7_sell_87 rfl
theorem x_77_88 {ls st : List Value} {h : Hp} {k : Nat} {x : Int32} : ex 77 88 ls (.int x :: .ref k :: st) h = if kd k = 7 then ex 77 91 ls st (hu h k 15 x) else none := x_putf hc_77 dX7_sell_88 rfl fr_7_89 (by decide)
theorem x_77_91 {ls st : List Value} {h : Hp}  : ex 77 91 ls (st) h = gA (ldA ls 0) 77 92 ls st h := x_aload_n hc_77 dX7_sell_91 rfl rfl
theorem x_77_92i {ls st : List Value} {h : Hp} {u : Int32} : ex 77 92 ls (.int u :: st) h = ex 77 93 ls (.int u :: .int u :: st) h := x_dup_i hc_77 dX7_sell_92 rfl
theorem x_77_92a {ls st : List Value} {h : Hp} {u : Nat} : ex 77 92 ls (.ref u :: st) h = ex 77 93 ls (.ref u :: .ref u :: st) h := x_dup_a hc_77 dX7_sell_92 rfl
theorem x_77_93 {ls st : List Value} {h : Hp} {k : Nat} : ex 77 93 ls (.ref k :: st) h = if kd k = 7 then ex 77 96 ls (vl h k 16 :: st) h else none := x_getf hc_77 dX7_sell_93 rfl fr_7_92
theorem x_77_96 {ls st : List Value} {h : Hp}  : ex 77 96 ls (st) h = gI (ldI ls 4) 77 98 ls st h := x_iload hc_77 dX7_sell_96 rfl
theorem x_77_98 {ls st : List Value} {h : Hp} {a b : Int32} : ex 77 98 ls (.int b :: .int a :: st) h = ex 77 99 ls (.int (a + b) :: st) h := x_iadd hc_77 dX7_sell_98 rfl
theorem x_77_99 {ls st : List Value} {h : Hp} {k : Nat} {x : Int32} : ex 77 99 ls (.int x :: .ref k :: st) h = if kd k = 7 then ex 77 102 ls st (hu h k 16 x) else none := x_putf hc_77 dX7_sell_99 rfl fr_7_92 (by decide)
theorem x_77_102 {ls st : List Value} {h : Hp}  : ex 77 102 ls (st) h = gI (ldI ls 4) 77 104 ls st h := x_iload hc_77 dX7_sell_102 rfl
theorem x_77_104 {ls : List Value} {h : Hp} {v : Int32} : ex 77 104 ls [.int v] h = some (some (.int v), h) := x_iret hc_77 dX7_sell_104 rfl
theorem x_78_0 {ls st : List Value} {h : Hp}  : ex 78 0 ls (st) h = gA (ldA ls 0) 78 1 ls st h := x_aload_n hc_78 dX7_worth_0 rfl rfl
theorem x_78_1 {ls st : List Value} {h : Hp}  : ex 78 1 ls (st) h = gI (ldI ls 1) 78 2 ls st h := x_iload_n hc_78 dX7_worth_1 rfl rfl
theorem x_78_2 {ls st : List Value} {h : Hp} {k : Nat} {a0 : Int32} : ex 78 2 ls (.int a0 :: .ref k :: st) h = if kd k = 7 ∧ st.length ≤ 4 then gC (ex 58 0 [.ref k, .int a0] [] h) 78 5 ls st else none := x_callV (as := [.int a0]) hc_78 dX7_worth_2 rfl mr_7_148 rfl rfl rfl (by decide) (by decide)
theorem x_78_5 {ls st : List Value} {h : Hp} {x : Int32} : ex 78 5 ls (.int x :: st) h = if x = 0 then ex 78 16 ls st h else ex 78 8 ls st h := x_if_eq hc_78 dX7_worth_5 rfl (by decide)
theorem x_78_8 {ls st : List Value} {h : Hp}  : ex 78 8 ls (st) h = gA (ldA ls 0) 78 9 ls st h := x_aload_n hc_78 dX7_worth_8 rfl rfl
theorem x_78_9 {ls st : List Value} {h : Hp}  : ex 78 9 ls (st) h = gI (ldI ls 2) 78 10 ls st h := x_iload_n hc_78 dX7_worth_9 rfl rfl
theorem x_78_10 {ls st : List Value} {h : Hp} {k : Nat} {a0 : Int32} : ex 78 10 ls (.int a0 :: .ref k :: st) h = if kd k = 7 ∧ st.length ≤ 4 then gC (ex 47 0 [.ref k, .int a0] [] h) 78 13 ls st else none := x_callV (as := [.int a0]) hc_78 dX7_worth_10 rfl mr_7_108 rfl rfl rfl (by decide) (by decide)
theorem x_78_13 {ls st : List Value} {h : Hp} {x : Int32} : ex 78 13 ls (.int x :: st) h = if x = 0 then ex 78 16 ls st h else ex 78 23 ls st h := x_if_ne hc_78 dX7_worth_13 rfl (by decide)
theorem x_78_16 {ls st : List Value} {h : Hp}  : ex 78 16 ls (st) h = gA (ldA ls 0) 78 17 ls st h := x_aload_n hc_78 dX7_worth_16 rfl rfl
theorem x_78_17 {ls st : List Value} {h : Hp}  : ex 78 17 ls (st) h = ex 78 19 ls (.int (-3) :: st) h := x_bipush hc_78 dX7_worth_17 rfl (by decide)
theorem x_78_19 {ls st : List Value} {h : Hp} {k : Nat} {a0 : Int32} : ex 78 19 ls (.int a0 :: .ref k :: st) h = if kd k = 7 ∧ st.length ≤ 4 then gC (ex 45 0 [.ref k, .int a0] [] h) 78 22 ls st else none := x_callV (as := [.int a0]) hc_78 dX7_worth_19 rfl mr_7_104 rfl rfl rfl (by decide) (by decide)
theorem x_78_22 {ls : List Value} {h : Hp} {v : Int32} : ex 78 22 ls [.int v] h = some (some (.int v), h) := x_iret hc_78 dX7_worth_22 rfl
theorem x_78_23 {ls st : List Value} {h : Hp}  : ex 78 23 ls (st) h = gA (ldA ls 0) 78 24 ls st h := x_aload_n hc_78 dX7_worth_23 rfl rfl
theorem x_78_24 {ls st : List Value} {h : Hp}  : ex 78 24 ls (st) h = gA (ldA ls 0) 78 25 ls st h := x_aload_n hc_78 dX7_worth_24 rfl rfl
theorem x_78_25 {ls st : List Value} {h : Hp} {k : Nat} : ex 78 25 ls (.ref k :: st) h = if kd k = 7 then ex 78 28 ls (vl h k 1 :: st) h else none := x_getf hc_78 dX7_worth_25 rfl fr_7_17
theorem x_78_28 {ls st : List Value} {h : Hp}  : ex 78 28 ls (st) h = gI (ldI ls 1) 78 29 ls st h := x_iload_n hc_78 dX7_worth_28 rfl rfl
theorem x_78_29 {ls st : List Value} {h : Hp} {k : Nat} {x : Int32} : ex 78 29 ls (.int x :: .ref k :: st) h = if (11 ≤ kd k ∧ kd k ≤ 14) ∧ x.toNatClampNeg < ln k ∧ 0 ≤ x then gA (rf k x.toNatClampNeg) 78 30 ls st h else none := x_aald hc_78 dX7_worth_29 rfl
theorem x_78_30 {ls st : List Value} {h : Hp}  : ex 78 30 ls (st) h = gI (ldI ls 2) 78 31 ls st h := x_iload_n hc_78 dX7_worth_30 rfl rfl
theorem x_78_31 {ls st : List Value} {h : Hp} {k : Nat} {a0 : Nat} {a1 : Int32} : ex 78 31 ls (.int a1 :: .ref a0 :: .ref k :: st) h = if kd k = 7 ∧ st.length ≤ 4 then gC (ex 79 0 [.ref k, .ref a0, .int a1] [] h) 78 34 ls st else none := x_callV (as := [.ref a0, .int a1]) hc_78 dX7_worth_31 rfl mr_7_251 rfl rfl rfl (by decide) (by decide)
theorem x_78_34 {ls st : List Value} {h : Hp} {x : Int32} : ex 78 34 ls (.int x :: st) h = if x = 0 then ex 78 37 ls st h else ex 78 44 ls st h := x_if_ne hc_78 dX7_worth_34 rfl (by decide)
theorem x_78_37 {ls st : List Value} {h : Hp}  : ex 78 37 ls (st) h = gA (ldA ls 0) 78 38 ls st h := x_aload_n hc_78 dX7_worth_37 rfl rfl
theorem x_78_38 {ls st : List Value} {h : Hp}  : ex 78 38 ls (st) h = ex 78 40 ls (.int (-7) :: st) h := x_bipush hc_78 dX7_worth_38 rfl (by decide)
theorem x_78_40 {ls st : List Value} {h : Hp} {k : Nat} {a0 : Int32} : ex 78 40 ls (.int a0 :: .ref k :: st) h = if kd k = 7 ∧ st.length ≤ 4 then gC (ex 45 0 [.ref k, .int a0] [] h) 78 43 ls st else none := x_callV (as := [.int a0]) hc_78 dX7_worth_40 rfl mr_7_104 rfl rfl rfl (by decide) (by decide)
theorem x_78_43 {ls : List Value} {h : Hp} {v : Int32} : ex 78 43 ls [.int v] h = some (some (.int v), h) := x_iret hc_78 dX7_worth_43 rfl
theorem x_78_44 {ls st : List Value} {h : Hp}  : ex 78 44 ls (st) h = gA (ldA ls 0) 78 45 ls st h := x_aload_n hc_78 dX7_worth_44 rfl rfl
theorem x_78_45 {ls st : List Value} {h : Hp}  : ex 78 45 ls (st) h = gA (ldA ls 0) 78 46 ls st h := x_aload_n hc_78 dX7_worth_45 rfl rfl
theorem x_78_46 {ls st : List Value} {h : Hp} {k : Nat} : ex 78 46 ls (.ref k :: st) h = if kd k = 7 then ex 78 49 ls (vl h k 1 :: st) h else none := x_getf hc_78 dX7_worth_46 rfl fr_7_17
theorem x_78_49 {ls st : List Value} {h : Hp}  : ex 78 49 ls (st) h = gI (ldI ls 1) 78 50 ls st h := x_iload_n hc_78 dX7_worth_49 rfl rfl
theorem x_78_50 {ls st : List Value} {h : Hp} {k : Nat} {x : Int32} : ex 78 50 ls (.int x :: .ref k :: st) h = if (11 ≤ kd k ∧ kd k ≤ 14) ∧ x.toNatClampNeg < ln k ∧ 0 ≤ x then gA (rf k x.toNatClampNeg) 78 51 ls st h else none := x_aald hc_78 dX7_worth_50 rfl
theorem x_78_51 {ls st : List Value} {h : Hp}  : ex 78 51 ls (st) h = gI (ldI ls 2) 78 52 ls st h := x_iload_n hc_78 dX7_worth_51 rfl rfl
theorem x_78_52 {ls st : List Value} {h : Hp} {k : Nat} {a0 : Nat} {a1 : Int32} : ex 78 52 ls (.int a1 :: .ref a0 :: .ref k :: st) h = if kd k = 7 ∧ st.length ≤ 4 then gC (ex 80 0 [.ref k, .ref a0, .int a1, .null, .null] [] h) 78 55 ls st else none := x_callV (as := [.ref a0, .int a1]) hc_78 dX7_worth_52 rfl mr_7_255 rfl rfl rfl (by decide) (by decide)
theorem x_78_55 {ls : List Value} {h : Hp} {v : Int32} : ex 78 55 ls [.int v] h = some (some (.int v), h) := x_iret hc_78 dX7_worth_55 rfl
theorem x_79_0 {ls st : List Value} {h : Hp}  : ex 79 0 ls (st) h = gA (ldA ls 0) 79 1 ls st h := x_aload_n hc_79 dX7_couldSellAt_0 rfl rfl
theorem x_79_1 {ls st : List Value} {h : Hp} {k : Nat} : ex 79 1 ls (.ref k :: st) h = if kd k = 7 then ex 79 4 ls (vl h k 0 :: st) h else none := x_getf hc_79 dX7_couldSellAt_1 rfl fr_7_11
theorem x_79_4 {ls st : List Value} {h : Hp}  : ex 79 4 ls (st) h = gI (ldI ls 2) 79 5 ls st h := x_iload_n hc_79 dX7_couldSellAt_4 rfl rfl
theorem x_79_5 {ls st : List Value} {h : Hp} {k : Nat} {x : Int32} : ex 79 5 ls (.int x :: .ref k :: st) h = if (11 ≤ kd k ∧ kd k ≤ 14) ∧ x.toNatClampNeg < ln k ∧ 0 ≤ x then gA (rf k x.toNatClampNeg) 79 6 ls st h else none := x_aald hc_79 dX7_couldSellAt_5 rfl
theorem x_79_6 {ls st : List Value} {h : Hp} {k : Nat} : ex 79 6 ls (.ref k :: st) h = if kd k = 4 then ex 79 9 ls (vl h k 5 :: st) h else none := x_getf hc_79 dX7_couldSellAt_6 rfl fr_7_119
theorem x_79_9 {ls st : List Value} {h : Hp} {x : Int32} : ex 79 9 ls (.int x :: st) h = if 0 < x then ex 79 12 ls st h else ex 79 24 ls st h := x_if_le hc_79 dX7_couldSellAt_9 rfl (by decide)
theorem x_79_12 {ls st : List Value} {h : Hp}  : ex 79 12 ls (st) h = gA (ldA ls 1) 79 13 ls st h := x_aload_n hc_79 dX7_couldSellAt_12 rfl rfl
theorem x_79_13 {ls st : List Value} {h : Hp}  : ex 79 13 ls (st) h = gI (ldI ls 2) 79 14 ls st h := x_iload_n hc_79 dX7_couldSellAt_13 rfl rfl
theorem x_79_14 {ls st : List Value} {h : Hp} {k : Nat} {a0 : Int32} : ex 79 14 ls (.int a0 :: .ref k :: st) h = if kd k = 0 ∧ st.length ≤ 4 then gC (ex 3 0 [.ref k, .int a0] [] h) 79 17 ls st else none := x_callV (as := [.int a0]) hc_79 dX7_couldSellAt_14 rfl mr_7_189 rfl rfl rfl (by decide) (by decide)
theorem x_79_17 {ls st : List Value} {h : Hp} {x : Int32} : ex 79 17 ls (.int x :: st) h = if x = 0 then ex 79 24 ls st h else ex 79 20 ls st h := x_if_eq hc_79 dX7_couldSellAt_17 rfl (by decide)
theorem x_79_20 {ls st : List Value} {h : Hp}  : ex 79 20 ls (st) h = ex 79 21 ls (.int (1) :: st) h := x_iconst hc_79 dX7_couldSellAt_20 rfl (by decide)
theorem x_79_21 {ls st : List Value} {h : Hp}  : ex 79 21 ls (st) h = ex 79 25 ls st h := x_goto hc_79 dX7_couldSellAt_21 (by decide)
theorem x_79_24 {ls st : List Value} {h : Hp}  : ex 79 24 ls (st) h = ex 79 25 ls (.int (0) :: st) h := x_iconst hc_79 dX7_couldSellAt_24 rfl (by decide)
theorem x_79_25 {ls : List Value} {h : Hp} {v : Int32} : ex 79 25 ls [.int v] h = if v = 0 ∨ v = 1 then some (some (.int v), h) else none := x_zret hc_79 dX7_couldSellAt_25 rfl
theorem x_80_0 {ls st : List Value} {h : Hp}  : ex 80 0 ls (st) h = gA (ldA ls 0) 80 1 ls st h := x_aload_n hc_80 dX7_tryOut_0 rfl rfl
theorem x_80_1 {ls st : List Value} {h : Hp} {k : Nat} : ex 80 1 ls (.ref k :: st) h = if kd k = 7 then ex 80 4 ls (vl h k 9 :: st) h else none := x_getf hc_80 dX7_tryOut_1 rfl fr_7_69
theorem x_80_4 {ls st : List Value} {h : Hp}  : ex 80 4 ls (st) h = gA (ldA ls 1) 80 5 ls st h := x_aload_n hc_80 dX7_tryOut_4 rfl rfl
theorem x_80_5 {ls st : List Value} {h : Hp} {k : Nat} {a0 : Nat} : ex 80 5 ls (.ref a0 :: .ref k :: st) h = if kd k = 0 ∧ st.length ≤ 4 then gC (ex 12 0 [.ref k, .ref a0, .null] [] h) 80 8 ls st else none := x_callV (as := [.ref a0]) hc_80 dX7_tryOut_5 rfl mr_7_338 rfl rfl rfl (by decide) (by decide)
theorem x_80_8 {ls st : List Value} {h : Hp}  : ex 80 8 ls (st) h = gA (ldA ls 0) 80 9 ls st h := x_aload_n hc_80 dX7_tryOut_8 rfl rfl
theorem x_80_9 {ls st : List Value} {h : Hp} {k : Nat} : ex 80 9 ls (.ref k :: st) h = if kd k = 7 then ex 80 12 ls (vl h k 10 :: st) h else none := x_getf hc_80 dX7_tryOut_9 rfl fr_7_73
theorem x_80_12 {ls st : List Value} {h : Hp}  : ex 80 12 ls (st) h = gA (ldA ls 0) 80 13 ls st h := x_aload_n hc_80 dX7_tryOut_12 rfl rfl
theorem x_80_13 {ls st : List Value} {h : Hp} {k : Nat} : ex 80 13 ls (.ref k :: st) h = if kd k = 7 then ex 80 16 ls (vl h k 5 :: st) h else none := x_getf hc_80 dX7_tryOut_13 rfl fr_7_44
theorem x_80_16 {ls st : List Value} {h : Hp} {k : Nat} {a0 : Nat} : ex 80 16 ls (.ref a0 :: .ref k :: st) h = if kd k = 1 ∧ st.length ≤ 4 then gC (ex 16 0 [.ref k, .ref a0] [] h) 80 19 ls st else none := x_callV (as := [.ref a0]) hc_80 dX7_tryOut_16 rfl mr_7_342 rfl rfl rfl (by decide) (by decide)
theorem x_80_19 {ls st : List Value} {h : Hp}  : ex 80 19 ls (st) h = gA (ldA ls 0) 80 20 ls st h := x_aload_n hc_80 dX7_tryOut_19 rfl rfl
theorem x_80_20 {ls st : List Value} {h : Hp} {k : Nat} : ex 80 20 ls (.ref k :: st) h = if kd k = 7 then ex 80 23 ls (vl h k 9 :: st) h else none := x_getf hc_80 dX7_tryOut_20 rfl fr_7_69
theorem x_80_23 {ls st : List Value} {h : Hp} {k : Nat}  : ex 80 23 ls (.ref k :: st) h = if kd k = 0 ∧ st.length ≤ 4 then gC (ex 1 0 [.ref k] [] h) 80 26 ls st else none := x_callV (as := []) hc_80 dX7_tryOut_23 rfl mr_7_157 rfl rfl rfl (by decide) (by decide)
theorem x_80_26 {ls st : List Value} {h : Hp} {x : Int32} : ex 80 26 ls (.int x :: st) h = if x = 0 then ex 80 40 ls st h else ex 80 29 ls st h := x_if_eq hc_80 dX7_tryOut_26 rfl (by decide)
theorem x_80_29 {ls st : List Value} {h : Hp}  : ex 80 29 ls (st) h = gA (ldA ls 0) 80 30 ls st h := x_aload_n hc_80 dX7_tryOut_29 rfl rfl
theorem x_80_30 {ls st : List Value} {h : Hp} {k : Nat} : ex 80 30 ls (.ref k :: st) h = if kd k = 7 then ex 80 33 ls (vl h k 9 :: st) h else none := x_getf hc_80 dX7_tryOut_30 rfl fr_7_69
theorem x_80_33 {ls st : List Value} {h : Hp}  : ex 80 33 ls (st) h = gI (ldI ls 2) 80 34 ls st h := x_iload_n hc_80 dX7_tryOut_33 rfl rfl
theorem x_80_34 {ls st : List Value} {h : Hp} {k : Nat} {x : Int32} : ex 80 34 ls (.int x :: .ref k :: st) h = if kd k = 0 then ex 80 37 ls st (hu h k 7 x) else none := x_putf hc_80 dX7_tryOut_34 rfl fr_7_203 (by decide)
theorem x_80_37 {ls st : List Value} {h : Hp}  : ex 80 37 ls (st) h = ex 80 63 ls st h := x_goto hc_80 dX7_tryOut_37 (by decide)
theorem x_80_40 {ls st : List Value} {h : Hp}  : ex 80 40 ls (st) h = gA (ldA ls 0) 80 41 ls st h := x_aload_n hc_80 dX7_tryOut_40 rfl rfl
theorem x_80_41 {ls st : List Value} {h : Hp} {k : Nat} : ex 80 41 ls (.ref k :: st) h = if kd k = 7 then ex 80 44 ls (vl h k 9 :: st) h else none := x_getf hc_80 dX7_tryOut_41 rfl fr_7_69
theorem x_80_44 {ls st : List Value} {h : Hp}  : ex 80 44 ls (st) h = gI (ldI ls 2) 80 45 ls st h := x_iload_n hc_80 dX7_tryOut_44 rfl rfl
theorem x_80_45 {ls st : List Value} {h : Hp}  : ex 80 45 ls (st) h = gA (ldA ls 0) 80 46 ls st h := x_aload_n hc_80 dX7_tryOut_45 rfl rfl
theorem x_80_46 {ls st : List Value} {h : Hp} {k : Nat} : ex 80 46 ls (.ref k :: st) h = if kd k = 7 then ex 80 49 ls (vl h k 0 :: st) h else none := x_getf hc_80 dX7_tryOut_46 rfl fr_7_11
theorem x_80_49 {ls st : List Value} {h : Hp}  : ex 80 49 ls (st) h = gA (ldA ls 0) 80 50 ls st h := x_aload_n hc_80 dX7_tryOut_49 rfl rfl
theorem x_80_50 {ls st : List Value} {h : Hp} {k : Nat} : ex 80 50 ls (.ref k :: st) h = if kd k = 7 then ex 80 53 ls (vl h k 9 :: st) h else none := x_getf hc_80 dX7_tryOut_50 rfl fr_7_69
theorem x_80_53 {ls st : List Value} {h : Hp} {k : Nat} : ex 80 53 ls (.ref k :: st) h = if kd k = 0 then ex 80 56 ls (vl h k 6 :: st) h else none := x_getf hc_80 dX7_tryOut_53 rfl fr_7_179
theorem x_80_56 {ls st : List Value} {h : Hp} {k : Nat} {x : Int32} : ex 80 56 ls (.int x :: .ref k :: st) h = if (11 ≤ kd k ∧ kd k ≤ 14) ∧ x.toNatClampNeg < ln k ∧ 0 ≤ x then gA (rf k x.toNatClampNeg) 80 57 ls st h else none := x_aald hc_80 dX7_tryOut_56 rfl
theorem x_80_57 {ls st : List Value} {h : Hp} {k : Nat} : ex 80 57 ls (.ref k :: st) h = if kd k = 4 then ex 80 60 ls (vl h k 6 :: st) h else none := x_getf hc_80 dX7_tryOut_57 rfl fr_7_192
theorem x_80_60 {ls st : List Value} {h : Hp} {k : Nat} {a0 : Int32} {a1 : Int32} : ex 80 60 ls (.int a1 :: .int a0 :: .ref k :: st) h = if kd k = 0 ∧ st.length ≤ 4 then gC (ex 4 0 [.ref k, .int a0, .int a1] [] h) 80 63 ls st else none := x_callV (as := [.int a0, .int a1]) hc_80 dX7_tryOut_60 rfl mr_7_195 rfl rfl rfl (by decide) (by decide)
theorem x_80_63 {ls st : List Value} {h : Hp}  : ex 80 63 ls (st) h = ex 80 64 ls (.int (0) :: st) h := x_iconst hc_80 dX7_tryOut_63 rfl (by decide)
theorem x_80_64 {ls st : List Value} {h : Hp} {x : Int32} : ex 80 64 ls (.int x :: st) h = ex 80 65 (ls.set 3 (.int x)) st h := x_istore_n hc_80 dX7_tryOut_64 rfl rfl (by decide)
theorem x_80_65 {ls st : List Value} {h : Hp}  : ex 80 65 ls (st) h = ex 80 66 ls (.int (0) :: st) h := x_iconst hc_80 dX7_tryOut_65 rfl (by decide)
theorem x_80_66 {ls st : List Value} {h : Hp} {x : Int32} : ex 80 66 ls (.int x :: st) h = ex 80 68 (ls.set 4 (.int x)) st h := x_istore hc_80 dX7_tryOut_66 rfl (by decide)
theorem x_80_68 {ls st : List Value} {h : Hp}  : ex 80 68 ls (st) h = gI (ldI ls 4) 80 70 ls st h := x_iload hc_80 dX7_tryOut_68 rfl
theorem x_80_70 {ls st : List Value} {h : Hp}  : ex 80 70 ls (st) h = ex 80 73 ls (.int (1000) :: st) h := x_sipush hc_80 dX7_tryOut_70 rfl (by decide)
theorem x_80_73 {ls st : List Value} {h : Hp} {x z : Int32} : ex 80 73 ls (.int z :: .int x :: st) h = if x < z then ex 80 76 ls st h else ex 80 113 ls st h := x_icmp_ge hc_80 dX7_tryOut_73 rfl (by decide)
theorem x_80_76 {ls st : List Value} {h : Hp}  : ex 80 76 ls (st) h = gI (ldI ls 3) 80 77 ls st h := x_iload_n hc_80 dX7_tryOut_76 rfl rfl
theorem x_80_77 {ls st : List Value} {h : Hp} {x : Int32} : ex 80 77 ls (.int x :: st) h = if x = 0 then ex 80 80 ls st h else ex 80 113 ls st h := x_if_ne hc_80 dX7_tryOut_77 rfl (by decide)
theorem x_80_80 {ls st : List Value} {h : Hp}  : ex 80 80 ls (st) h = gA (ldA ls 0) 80 81 ls st h := x_aload_n hc_80 dX7_tryOut_80 rfl rfl
theorem x_80_81 {ls st : List Value} {h : Hp} {k : Nat} : ex 80 81 ls (.ref k :: st) h = if kd k = 7 then ex 80 84 ls (vl h k 10 :: st) h else none := x_getf hc_80 dX7_tryOut_81 rfl fr_7_73
theorem x_80_84 {ls st : List Value} {h : Hp} {k : Nat}  : ex 80 84 ls (.ref k :: st) h = if kd k = 1 ∧ st.length ≤ 4 then gC (ex 14 0 [.ref k] [] h) 80 87 ls st else none := x_callV (as := []) hc_80 dX7_tryOut_84 rfl mr_7_234 rfl rfl rfl (by decide) (by decide)
theorem x_80_87 {ls st : List Value} {h : Hp}  : ex 80 87 ls (st) h = gA (ldA ls 0) 80 88 ls st h := x_aload_n hc_80 dX7_tryOut_87 rfl rfl
theorem x_80_88 {ls st : List Value} {h : Hp}  : ex 80 88 ls (st) h = gA (ldA ls 0) 80 89 ls st h := x_aload_n hc_80 dX7_tryOut_88 rfl rfl
theorem x_80_89 {ls st : List Value} {h : Hp} {k : Nat} : ex 80 89 ls (.ref k :: st) h = if kd k = 7 then ex 80 92 ls (vl h k 9 :: st) h else none := x_getf hc_80 dX7_tryOut_89 rfl fr_7_69
theorem x_80_92 {ls st : List Value} {h : Hp}  : ex 80 92 ls (st) h = gA (ldA ls 0) 80 93 ls st h := x_aload_n hc_80 dX7_tryOut_92 rfl rfl
theorem x_80_93 {ls st : List Value} {h : Hp} {k : Nat} : ex 80 93 ls (.ref k :: st) h = if kd k = 7 then ex 80 96 ls (vl h k 10 :: st) h else none := x_getf hc_80 dX7_tryOut_93 rfl fr_7_73
theorem x_80_96 {ls st : List Value} {h : Hp}  : ex 80 96 ls (st) h = gA (ldA ls 0) 80 97 ls st h := x_aload_n hc_80 dX7_tryOut_96 rfl rfl
theorem x_80_97 {ls st : List Value} {h : Hp} {k : Nat} : ex 80 97 ls (.ref k :: st) h = if kd k = 7 then ex 80 100 ls (vl h k 14 :: st) h else none := x_getf hc_80 dX7_tryOut_97 rfl fr_7_86
theorem x_80_100 {ls st : List Value} {h : Hp}  : ex 80 100 ls (st) h = gI (ldI ls 4) 80 102 ls st h := x_iload hc_80 dX7_tryOut_100 rfl
theorem x_80_102 {ls st : List Value} {h : Hp} {a b : Int32} : ex 80 102 ls (.int b :: .int a :: st) h = ex 80 103 ls (.int (a + b) :: st) h := x_iadd hc_80 dX7_tryOut_102 rfl
theorem x_80_103 {ls st : List Value} {h : Hp} {k : Nat} {a0 : Nat} {a1 : Nat} {a2 : Int32} : ex 80 103 ls (.int a2 :: .ref a1 :: .ref a0 :: .ref k :: st) h = if kd k = 7 ∧ st.length ≤ 4 then gC (ex 71 0 [.ref k, .ref a0, .ref a1, .int a2, .null, .null] [] h) 80 106 ls st else none := x_callV (as := [.ref a0, .ref a1, .int a2]) hc_80 dX7_tryOut_103 rfl mr_7_237 rfl rfl rfl (by decide) (by decide)
theorem x_80_106 {ls st : List Value} {h : Hp} {x : Int32} : ex 80 106 ls (.int x :: st) h = ex 80 107 (ls.set 3 (.int x)) st h := x_istore_n hc_80 dX7_tryOut_106 rfl rfl (by decide)
theorem x_80_107 {ls st : List Value} {h : Hp}  : ex 80 107 ls (st) h = gN (ldI ls 4) 80 110 ls 4 (1) st h := x_iinc hc_80 dX7_tryOut_107 rfl (by decide) (by decide)
theorem x_80_110 {ls st : List Value} {h : Hp}  : ex 80 110 ls (st) h = ex 80 68 ls st h := x_goto hc_80 dX7_tryOut_110 (by decide)
theorem x_80_113 {ls st : List Value} {h : Hp}  : ex 80 113 ls (st) h = gA (ldA ls 0) 80 114 ls st h := x_aload_n hc_80 dX7_tryOut_113 rfl rfl
theorem x_80_114 {ls st : List Value} {h : Hp} {k : Nat} : ex 80 114 ls (.ref k :: st) h = if kd k = 7 then ex 80 117 ls (vl h k 0 :: st) h else none := x_getf hc_80 dX7_tryOut_114 rfl fr_7_11
theorem x_80_117 {ls st : List Value} {h : Hp}  : ex 80 117 ls (st) h = gI (ldI ls 2) 80 118 ls st h := x_iload_n hc_80 dX7_tryOut_117 rfl rfl
theorem x_80_118 {ls st : List Value} {h : Hp} {k : Nat} {x : Int32} : ex 80 118 ls (.int x :: .ref k :: st) h = if (11 ≤ kd k ∧ kd k ≤ 14) ∧ x.toNatClampNeg < ln k ∧ 0 ≤ x then gA (rf k x.toNatClampNeg) 80 119 ls st h else none := x_aald hc_80 dX7_tryOut_118 rfl
theorem x_80_119 {ls st : List Value} {h : Hp}  : ex 80 119 ls (st) h = gA (ldA ls 0) 80 120 ls st h := x_aload_n hc_80 dX7_tryOut_119 rfl rfl
theorem x_80_120 {ls st : List Value} {h : Hp} {k : Nat} : ex 80 120 ls (.ref k :: st) h = if kd k = 7 then ex 80 123 ls (vl h k 9 :: st) h else none := x_getf hc_80 dX7_tryOut_120 rfl fr_7_69
theorem x_80_123 {ls st : List Value} {h : Hp}  : ex 80 123 ls (st) h = gA (ldA ls 0) 80 124 ls st h := x_aload_n hc_80 dX7_tryOut_123 rfl rfl
theorem x_80_124 {ls st : List Value} {h : Hp} {k : Nat} : ex 80 124 ls (.ref k :: st) h = if kd k = 7 then ex 80 127 ls (vl h k 14 :: st) h else none := x_getf hc_80 dX7_tryOut_124 rfl fr_7_86
theorem x_80_127 {ls st : List Value} {h : Hp} {k : Nat} {a0 : Nat} {a1 : Int32} : ex 80 127 ls (.int a1 :: .ref a0 :: .ref k :: st) h = if kd k = 4 ∧ st.length ≤ 4 then gC (ex 22 0 [.ref k, .ref a0, .int a1, .null, .null] [] h) 80 130 ls st else none := x_callV (as := [.ref a0, .int a1]) hc_80 dX7_tryOut_127 rfl mr_7_241 rfl rfl rfl (by decide) (by decide)
theorem x_80_130 {ls : List Value} {h : Hp} {v : Int32} : ex 80 130 ls [.int v] h = some (some (.int v), h) := x_iret hc_80 dX7_tryOut_130 rfl
theorem x_81_0 {ls st : List Value} {h : Hp}  : ex 81 0 ls (st) h = gA (ldA ls 0) 81 1 ls st h := x_aload_n hc_81 dX7_best_0 rfl rfl
theorem x_81_1 {ls st : List Value} {h : Hp}  : ex 81 1 ls (st) h = gI (ldI ls 1) 81 2 ls st h := x_iload_n hc_81 dX7_best_1 rfl rfl
theorem x_81_2 {ls st : List Value} {h : Hp} {k : Nat} {a0 : Int32} : ex 81 2 ls (.int a0 :: .ref k :: st) h = if kd k = 7 ∧ st.length ≤ 4 then gC (ex 58 0 [.ref k, .int a0] [] h) 81 5 ls st else none := x_callV (as := [.int a0]) hc_81 dX7_best_2 rfl mr_7_148 rfl rfl rfl (by decide) (by decide)
theorem x_81_5 {ls st : List Value} {h : Hp} {x : Int32} : ex 81 5 ls (.int x :: st) h = if x = 0 then ex 81 8 ls st h else ex 81 15 ls st h := x_if_ne hc_81 dX7_best_5 rfl (by decide)
theorem x_81_8 {ls st : List Value} {h : Hp}  : ex 81 8 ls (st) h = gA (ldA ls 0) 81 9 ls st h := x_aload_n hc_81 dX7_best_8 rfl rfl
theorem x_81_9 {ls st : List Value} {h : Hp}  : ex 81 9 ls (st) h = ex 81 11 ls (.int (-3) :: st) h := x_bipush hc_81 dX7_best_9 rfl (by decide)
theorem x_81_11 {ls st : List Value} {h : Hp} {k : Nat} {a0 : Int32} : ex 81 11 ls (.int a0 :: .ref k :: st) h = if kd k = 7 ∧ st.length ≤ 4 then gC (ex 45 0 [.ref k, .int a0] [] h) 81 14 ls st else none := x_callV (as := [.int a0]) hc_81 dX7_best_11 rfl mr_7_104 rfl rfl rfl (by decide) (by decide)
theorem x_81_14 {ls : List Value} {h : Hp} {v : Int32} : ex 81 14 ls [.int v] h = some (some (.int v), h) := x_iret hc_81 dX7_best_14 rfl
theorem x_81_15 {ls st : List Value} {h : Hp}  : ex 81 15 ls (st) h = ex 81 16 ls (.int (-1) :: st) h := x_iconst hc_81 dX7_best_15 rfl (by decide)
theorem x_81_16 {ls st : List Value} {h : Hp} {x : Int32} : ex 81 16 ls (.int x :: st) h = ex 81 17 (ls.set 2 (.int x)) st h := x_istore_n hc_81 dX7_best_16 rfl rfl (by decide)
theorem x_81_17 {ls st : List Value} {h : Hp}  : ex 81 17 ls (st) h = ex 81 18 ls (.int (-1) :: st) h := x_iconst hc_81 dX7_best_17 rfl (by decide)
theorem x_81_18 {ls st : List Value} {h : Hp} {x : Int32} : ex 81 18 ls (.int x :: st) h = ex 81 19 (ls.set 3 (.int x)) st h := x_istore_n hc_81 dX7_best_18 rfl rfl (by decide)
theorem x_81_19 {ls st : List Value} {h : Hp}  : ex 81 19 ls (st) h = ex 81 20 ls (.int (0) :: st) h := x_iconst hc_81 dX7_best_19 rfl (by decide)
theorem x_81_20 {ls st : List Value} {h : Hp} {x : Int32} : ex 81 20 ls (.int x :: st) h = ex 81 22 (ls.set 4 (.int x)) st h := x_istore hc_81 dX7_best_20 rfl (by decide)
theorem x_81_22 {ls st : List Value} {h : Hp}  : ex 81 22 ls (st) h = gI (ldI ls 4) 81 24 ls st h := x_iload hc_81 dX7_best_22 rfl
theorem x_81_24 {ls st : List Value} {h : Hp}  : ex 81 24 ls (st) h = gA (ldA ls 0) 81 25 ls st h := x_aload_n hc_81 dX7_best_24 rfl rfl
theorem x_81_25 {ls st : List Value} {h : Hp} {k : Nat} : ex 81 25 ls (.ref k :: st) h = if kd k = 7 then ex 81 28 ls (vl h k 11 :: st) h else none := x_getf hc_81 dX7_best_25 rfl fr_7_76
theorem x_81_28 {ls st : List Value} {h : Hp} {x z : Int32} : ex 81 28 ls (.int z :: .int x :: st) h = if x < z then ex 81 31 ls st h else ex 81 78 ls st h := x_icmp_ge hc_81 dX7_best_28 rfl (by decide)
theorem x_81_31 {ls st : List Value} {h : Hp}  : ex 81 31 ls (st) h = gA (ldA ls 0) 81 32 ls st h := x_aload_n hc_81 dX7_best_31 rfl rfl
theorem x_81_32 {ls st : List Value} {h : Hp}  : ex 81 32 ls (st) h = gA (ldA ls 0) 81 33 ls st h := x_aload_n hc_81 dX7_best_32 rfl rfl
theorem x_81_33 {ls st : List Value} {h : Hp} {k : Nat} : ex 81 33 ls (.ref k :: st) h = if kd k = 7 then ex 81 36 ls (vl h k 1 :: st) h else none := x_getf hc_81 dX7_best_33 rfl fr_7_17
theorem x_81_36 {ls st : List Value} {h : Hp}  : ex 81 36 ls (st) h = gI (ldI ls 1) 81 37 ls st h := x_iload_n hc_81 dX7_best_36 rfl rfl
theorem x_81_37 {ls st : List Value} {h : Hp} {k : Nat} {x : Int32} : ex 81 37 ls (.int x :: .ref k :: st) h = if (11 ≤ kd k ∧ kd k ≤ 14) ∧ x.toNatClampNeg < ln k ∧ 0 ≤ x then gA (rf k x.toNatClampNeg) 81 38 ls st h else none := x_aald hc_81 dX7_best_37 rfl
theorem x_81_38 {ls st : List Value} {h : Hp}  : ex 81 38 ls (st) h = gI (ldI ls 4) 81 40 ls st h := x_iload hc_81 dX7_best_38 rfl
theorem x_81_40 {ls st : List Value} {h : Hp} {k : Nat} {a0 : Nat} {a1 : Int32} : ex 81 40 ls (.int a1 :: .ref a0 :: .ref k :: st) h = if kd k = 7 ∧ st.length ≤ 4 then gC (ex 79 0 [.ref k, .ref a0, .int a1] [] h) 81 43 ls st else none := x_callV (as := [.ref a0, .int a1]) hc_81 dX7_best_40 rfl mr_7_251 rfl rfl rfl (by decide) (by decide)
theorem x_81_43 {ls st : List Value} {h : Hp} {x : Int32} : ex 81 43 ls (.int x :: st) h = if x = 0 then ex 81 72 ls st h else ex 81 46 ls st h := x_if_eq hc_81 dX7_best_43 rfl (by decide)
theorem x_81_46 {ls st : List Value} {h : Hp}  : ex 81 46 ls (st) h = gA (ldA ls 0) 81 47 ls st h := x_aload_n hc_81 dX7_best_46 rfl rfl
theorem x_81_47 {ls st : List Value} {h : Hp}  : ex 81 47 ls (st) h = gA (ldA ls 0) 81 48 ls st h := x_aload_n hc_81 dX7_best_47 rfl rfl
theorem x_81_48 {ls st : List Value} {h : Hp} {k : Nat} : ex 81 48 ls (.ref k :: st) h = if kd k = 7 then ex 81 51 ls (vl h k 1 :: st) h else none := x_getf hc_81 dX7_best_48 rfl fr_7_17
theorem x_81_51 {ls st : List Value} {h : Hp}  : ex 81 51 ls (st) h = gI (ldI ls 1) 81 52 ls st h := x_iload_n hc_81 dX7_best_51 rfl rfl
theorem x_81_52 {ls st : List Value} {h : Hp} {k : Nat} {x : Int32} : ex 81 52 ls (.int x :: .ref k :: st) h = if (11 ≤ kd k ∧ kd k ≤ 14) ∧ x.toNatClampNeg < ln k ∧ 0 ≤ x then gA (rf k x.toNatClampNeg) 81 53 ls st h else none := x_aald hc_81 dX7_best_52 rfl
theorem x_81_53 {ls st : List Value} {h : Hp}  : ex 81 53 ls (st) h = gI (ldI ls 4) 81 55 ls st h := x_iload hc_81 dX7_best_53 rfl
theorem x_81_55 {ls st : List Value} {h : Hp} {k : Nat} {a0 : Nat} {a1 : Int32} : ex 81 55 ls (.int a1 :: .ref a0 :: .ref k :: st) h = if kd k = 7 ∧ st.length ≤ 4 then gC (ex 80 0 [.ref k, .ref a0, .int a1, .null, .null] [] h) 81 58 ls st else none := x_callV (as := [.ref a0, .int a1]) hc_81 dX7_best_55 rfl mr_7_255 rfl rfl rfl (by decide) (by decide)
theorem x_81_58 {ls st : List Value} {h : Hp} {x : Int32} : ex 81 58 ls (.int x :: st) h = ex 81 60 (ls.set 5 (.int x)) st h := x_istore hc_81 dX7_best_58 rfl (by decide)
theorem x_81_60 {ls st : List Value} {h : Hp}  : ex 81 60 ls (st) h = gI (ldI ls 5) 81 62 ls st h := x_iload hc_81 dX7_best_60 rfl
theorem x_81_62 {ls st : List Value} {h : Hp}  : ex 81 62 ls (st) h = gI (ldI ls 3) 81 63 ls st h := x_iload_n hc_81 dX7_best_62 rfl rfl
theorem x_81_63 {ls st : List Value} {h : Hp} {x z : Int32} : ex 81 63 ls (.int z :: .int x :: st) h = if z < x then ex 81 66 ls st h else ex 81 72 ls st h := x_icmp_le hc_81 dX7_best_63 rfl (by decide)
theorem x_81_66 {ls st : List Value} {h : Hp}  : ex 81 66 ls (st) h = gI (ldI ls 5) 81 68 ls st h := x_iload hc_81 dX7_best_66 rfl
theorem x_81_68 {ls st : List Value} {h : Hp} {x : Int32} : ex 81 68 ls (.int x :: st) h = ex 81 69 (ls.set 3 (.int x)) st h := x_istore_n hc_81 dX7_best_68 rfl rfl (by decide)
theorem x_81_69 {ls st : List Value} {h : Hp}  : ex 81 69 ls (st) h = gI (ldI ls 4) 81 71 ls st h := x_iload hc_81 dX7_best_69 rfl
theorem x_81_71 {ls st : List Value} {h : Hp} {x : Int32} : ex 81 71 ls (.int x :: st) h = ex 81 72 (ls.set 2 (.int x)) st h := x_istore_n hc_81 dX7_best_71 rfl rfl (by decide)
theorem x_81_72 {ls st : List Value} {h : Hp}  : ex 81 72 ls (st) h = gN (ldI ls 4) 81 75 ls 4 (1) st h := x_iinc hc_81 dX7_best_72 rfl (by decide) (by decide)
theorem x_81_75 {ls st : List Value} {h : Hp}  : ex 81 75 ls (st) h = ex 81 22 ls st h := x_goto hc_81 dX7_best_75 (by decide)
theorem x_81_78 {ls st : List Value} {h : Hp}  : ex 81 78 ls (st) h = gI (ldI ls 2) 81 79 ls st h := x_iload_n hc_81 dX7_best_78 rfl rfl
theorem x_81_79 {ls : List Value} {h : Hp} {v : Int32} : ex 81 79 ls [.int v] h = some (some (.int v), h) := x_iret hc_81 dX7_best_79 rfl
theorem x_82_0 {ls st : List Value} {h : Hp}  : ex 82 0 ls (st) h = gA (ldA ls 0) 82 1 ls st h := x_aload_n hc_82 dX7_claim_0 rfl rfl
theorem x_82_1 {ls st : List Value} {h : Hp}  : ex 82 1 ls (st) h = gI (ldI ls 1) 82 2 ls st h := x_iload_n hc_82 dX7_claim_1 rfl rfl
theorem x_82_2 {ls st : List Value} {h : Hp} {k : Nat} {a0 : Int32} : ex 82 2 ls (.int a0 :: .ref k :: st) h = if kd k = 7 ∧ st.length ≤ 4 then gC (ex 58 0 [.ref k, .int a0] [] h) 82 5 ls st else none := x_callV (as := [.int a0]) hc_82 dX7_claim_2 rfl mr_7_148 rfl rfl rfl (by decide) (by decide)
theorem x_82_5 {ls st : List Value} {h : Hp} {x : Int32} : ex 82 5 ls (.int x :: st) h = if x = 0 then ex 82 8 ls st h else ex 82 15 ls st h := x_if_ne hc_82 dX7_claim_5 rfl (by decide)
theorem x_82_8 {ls st : List Value} {h : Hp}  : ex 82 8 ls (st) h = gA (ldA ls 0) 82 9 ls st h := x_aload_n hc_82 dX7_claim_8 rfl rfl
theorem x_82_9 {ls st : List Value} {h : Hp}  : ex 82 9 ls (st) h = ex 82 11 ls (.int (-3) :: st) h := x_bipush hc_82 dX7_claim_9 rfl (by decide)
theorem x_82_11 {ls st : List Value} {h : Hp} {k : Nat} {a0 : Int32} : ex 82 11 ls (.int a0 :: .ref k :: st) h = if kd k = 7 ∧ st.length ≤ 4 then gC (ex 45 0 [.ref k, .int a0] [] h) 82 14 ls st else none := x_callV (as := [.int a0]) hc_82 dX7_claim_11 rfl mr_7_104 rfl rfl rfl (by decide) (by decide)
theorem x_82_14 {ls : List Value} {h : Hp} {v : Int32} : ex 82 14 ls [.int v] h = some (some (.int v), h) := x_iret hc_82 dX7_claim_14 rfl
theorem x_82_15 {ls st : List Value} {h : Hp}  : ex 82 15 ls (st) h = gI (ldI ls 2) 82 16 ls st h := x_iload_n hc_82 dX7_claim_15 rfl rfl
theorem x_82_16 {ls st : List Value} {h : Hp}  : ex 82 16 ls (st) h = ex 82 17 ls (.int (0) :: st) h := x_iconst hc_82 dX7_claim_16 rfl (by decide)
theorem x_82_17 {ls st : List Value} {h : Hp}  : ex 82 17 ls (st) h = ex 82 18 ls (.int (2) :: st) h := x_iconst hc_82 dX7_claim_17 rfl (by decide)
theorem x_82_18 {ls st : List Value} {h : Hp} {a0 : Int32} {a1 : Int32} {a2 : Int32} : ex 82 18 ls (.int a2 :: .int a1 :: .int a0 :: st) h = if st.length ≤ 4 then gC (ex 44 0 [.int a0, .int a1, .int a2] [] h) 82 21 ls st else none := x_callS (as := [.int a0, .int a1, .int a2]) hc_82 dX7_claim_18 rfl mr_7_100 rfl rfl rfl (by decide)
theorem x_82_21 {ls st : List Value} {h : Hp} {x : Int32} : ex 82 21 ls (.int x :: st) h = if x = 0 then ex 82 24 ls st h else ex 82 31 ls st h := x_if_ne hc_82 dX7_claim_21 rfl (by decide)
theorem x_82_24 {ls st : List Value} {h : Hp}  : ex 82 24 ls (st) h = gA (ldA ls 0) 82 25 ls st h := x_aload_n hc_82 dX7_claim_24 rfl rfl
theorem x_82_25 {ls st : List Value} {h : Hp}  : ex 82 25 ls (st) h = ex 82 27 ls (.int (-7) :: st) h := x_bipush hc_82 dX7_claim_25 rfl (by decide)
theorem x_82_27 {ls st : List Value} {h : Hp} {k : Nat} {a0 : Int32} : ex 82 27 ls (.int a0 :: .ref k :: st) h = if kd k = 7 ∧ st.length ≤ 4 then gC (ex 45 0 [.ref k, .int a0] [] h) 82 30 ls st else none := x_callV (as := [.int a0]) hc_82 dX7_claim_27 rfl mr_7_104 rfl rfl rfl (by decide) (by decide)
theorem x_82_30 {ls : List Value} {h : Hp} {v : Int32} : ex 82 30 ls [.int v] h = some (some (.int v), h) := x_iret hc_82 dX7_claim_30 rfl
theorem x_82_31 {ls st : List Value} {h : Hp}  : ex 82 31 ls (st) h = gA (ldA ls 0) 82 32 ls st h := x_aload_n hc_82 dX7_claim_31 rfl rfl
theorem x_82_32 {ls st : List Value} {h : Hp} {k : Nat} : ex 82 32 ls (.ref k :: st) h = if kd k = 7 then ex 82 35 ls (vl h k 1 :: st) h else none := x_getf hc_82 dX7_claim_32 rfl fr_7_17
theorem x_82_35 {ls st : List Value} {h : Hp}  : ex 82 35 ls (st) h = gI (ldI ls 1) 82 36 ls st h := x_iload_n hc_82 dX7_claim_35 rfl rfl
theorem x_82_36 {ls st : List Value} {h : Hp} {k : Nat} {x : Int32} : ex 82 36 ls (.int x :: .ref k :: st) h = if (11 ≤ kd k ∧ kd k ≤ 14) ∧ x.toNatClampNeg < ln k ∧ 0 ≤ x then gA (rf k x.toNatClampNeg) 82 37 ls st h else none := x_aald hc_82 dX7_claim_36 rfl
theorem x_82_37 {ls st : List Value} {h : Hp} {k : Nat} : ex 82 37 ls (.ref k :: st) h = if kd k = 0 then ex 82 40 ls (vl h k 1 :: st) h else none := x_getf hc_82 dX7_claim_37 rfl fr_7_258
theorem x_82_40 {ls st : List Value} {h : Hp}  : ex 82 40 ls (st) h = gI (ldI ls 2) 82 41 ls st h := x_iload_n hc_82 dX7_claim_40 rfl rfl
theorem x_82_41 {ls st : List Value} {h : Hp} {k : Nat} {x : Int32} : ex 82 41 ls (.int x :: .ref k :: st) h = if kd k = 9 ∧ x.toNatClampNeg < ln k ∧ 0 ≤ x then ex 82 42 ls (.int (h k x.toNatClampNeg) :: st) h else none := x_iald hc_82 dX7_claim_41 rfl
theorem x_82_42 {ls : List Value} {h : Hp} {v : Int32} : ex 82 42 ls [.int v] h = some (some (.int v), h) := x_iret hc_82 dX7_claim_42 rfl
theorem x_83_0 {ls st : List Value} {h : Hp}  : ex 83 0 ls (st) h = gI (ldI ls 1) 83 1 ls st h := x_iload_n hc_83 dX7_count_0 rfl rfl
theorem x_83_1 {ls st : List Value} {h : Hp} {x : Int32} : ex 83 1 ls (.int x :: st) h = if x = 0 then ex 83 52 ls st h else if x = 1 then ex 83 57 ls st h else if x = 2 then ex 83 62 ls st h else if x = 3 then ex 83 67 ls st h else if x = 4 then ex 83 72 ls st h else if x = 5 then ex 83 80 ls st h else if x = 6 then ex 83 88 ls st h else if x = 7 then ex 83 96 ls st h else if x = 8 then ex 83 101 ls st h else ex 83 106 ls st h := by
  rw [x_tbl hc_83 dX7_count_1]
  by_cases h0 : x = 0
  · subst h0; rfl
  by_cases h1 : x = 1
  · subst h1; rfl
  by_cases h2 : x = 2
  · subst h2; rfl
  by_cases h3 : x = 3
  · subst h3; rfl
  by_cases h4 : x = 4
  · subst h4; rfl
  by_cases h5 : x = 5
  · subst h5; rfl
  by_cases h6 : x = 6
  · subst h6; rfl
  by_cases h7 : x = 7
  · subst h7; rfl
  by_cases h8 : x = 8
  · subst h8; rfl
  have hz : x.toInt < 0 ∨ 8 < x.toInt := by
    have e0 := lv_neT (a := 0) h0 (by decide)
    have e1 := lv_neT (a := 1) h1 (by decide)
    have e2 := lv_neT (a := 2) h2 (by decide)
    have e3 := lv_neT (a := 3) h3 (by decide)
    have e4 := lv_neT (a := 4) h4 (by decide)
    have e5 := lv_neT (a := 5) h5 (by decide)
    have e6 := lv_neT (a := 6) h6 (by decide)
    have e7 := lv_neT (a := 7) h7 (by decide)
    have e8 := lv_neT (a := 8) h8 (by decide)
    omega
  rw [if_pos hz, if_neg h0, if_neg h1, if_neg h2, if_neg h3, if_neg h4, if_neg h5, if_neg h6, if_neg h7, if_neg h8]
  rfl
theorem x_83_52 {ls st : List Value} {h : Hp}  : ex 83 52 ls (st) h = gA (ldA ls 0) 83 53 ls st h := x_aload_n hc_83 dX7_count_52 rfl rfl
theorem x_83_53 {ls st : List Value} {h : Hp} {k : Nat} : ex 83 53 ls (.ref k :: st) h = if kd k = 7 then ex 83 56 ls (vl h k 14 :: st) h else none := x_getf hc_83 dX7_count_53 rfl fr_7_86
theorem x_83_56 {ls : List Value} {h : Hp} {v : Int32} : ex 83 56 ls [.int v] h = some (some (.int v), h) := x_iret hc_83 dX7_count_56 rfl
theorem x_83_57 {ls st : List Value} {h : Hp}  : ex 83 57 ls (st) h = gA (ldA ls 0) 83 58 ls st h := x_aload_n hc_83 dX7_count_57 rfl rfl
theorem x_83_58 {ls st : List Value} {h : Hp} {k : Nat} : ex 83 58 ls (.ref k :: st) h = if kd k = 7 then ex 83 61 ls (vl h k 11 :: st) h else none := x_getf hc_83 dX7_count_58 rfl fr_7_76
theorem x_83_61 {ls : List Value} {h : Hp} {v : Int32} : ex 83 61 ls [.int v] h = some (some (.int v), h) := x_iret hc_83 dX7_count_61 rfl
theorem x_83_62 {ls st : List Value} {h : Hp}  : ex 83 62 ls (st) h = gA (ldA ls 0) 83 63 ls st h := x_aload_n hc_83 dX7_count_62 rfl rfl
theorem x_83_63 {ls st : List Value} {h : Hp} {k : Nat} : ex 83 63 ls (.ref k :: st) h = if kd k = 7 then ex 83 66 ls (vl h k 12 :: st) h else none := x_getf hc_83 dX7_count_63 rfl fr_7_80
theorem x_83_66 {ls : List Value} {h : Hp} {v : Int32} : ex 83 66 ls [.int v] h = some (some (.int v), h) := x_iret hc_83 dX7_count_66 rfl
theorem x_83_67 {ls st : List Value} {h : Hp}  : ex 83 67 ls (st) h = gA (ldA ls 0) 83 68 ls st h := x_aload_n hc_83 dX7_count_67 rfl rfl
theorem x_83_68 {ls st : List Value} {h : Hp} {k : Nat} : ex 83 68 ls (.ref k :: st) h = if kd k = 7 then ex 83 71 ls (vl h k 13 :: st) h else none := x_getf hc_83 dX7_count_68 rfl fr_7_83
theorem x_83_71 {ls : List Value} {h : Hp} {v : Int32} : ex 83 71 ls [.int v] h = some (some (.int v), h) := x_iret hc_83 dX7_count_71 rfl
theorem x_83_72 {ls st : List Value} {h : Hp}  : ex 83 72 ls (st) h = gA (ldA ls 0) 83 73 ls st h := x_aload_n hc_83 dX7_count_72 rfl rfl
theorem x_83_73 {ls st : List Value} {h : Hp} {k : Nat} : ex 83 73 ls (.ref k :: st) h = if kd k = 7 then ex 83 76 ls (vl h k 3 :: st) h else none := x_getf hc_83 dX7_count_73 rfl fr_7_30
theorem x_83_76 {ls st : List Value} {h : Hp} {k : Nat} : ex 83 76 ls (.ref k :: st) h = if kd k = 5 then ex 83 79 ls (vl h k 1 :: st) h else none := x_getf hc_83 dX7_count_76 rfl fr_7_218
theorem x_83_79 {ls : List Value} {h : Hp} {v : Int32} : ex 83 79 ls [.int v] h = some (some (.int v), h) := x_iret hc_83 dX7_count_79 rfl
theorem x_83_80 {ls st : List Value} {h : Hp}  : ex 83 80 ls (st) h = gA (ldA ls 0) 83 81 ls st h := x_aload_n hc_83 dX7_count_80 rfl rfl
theorem x_83_81 {ls st : List Value} {h : Hp} {k : Nat} : ex 83 81 ls (.ref k :: st) h = if kd k = 7 then ex 83 84 ls (vl h k 5 :: st) h else none := x_getf hc_83 dX7_count_81 rfl fr_7_44
theorem x_83_84 {ls st : List Value} {h : Hp} {k : Nat} : ex 83 84 ls (.ref k :: st) h = if kd k = 1 then ex 83 87 ls (vl h k 2 :: st) h else none := x_getf hc_83 dX7_count_84 rfl fr_7_261
theorem x_83_87 {ls : List Value} {h : Hp} {v : Int32} : ex 83 87 ls [.int v] h = some (some (.int v), h) := x_iret hc_83 dX7_count_87 rfl
theorem x_83_88 {ls st : List Value} {h : Hp}  : ex 83 88 ls (st) h = gA (ldA ls 0) 83 89 ls st h := x_aload_n hc_83 dX7_count_88 rfl rfl
theorem x_83_89 {ls st : List Value} {h : Hp} {k : Nat} : ex 83 89 ls (.ref k :: st) h = if kd k = 7 then ex 83 92 ls (vl h k 5 :: st) h else none := x_getf hc_83 dX7_count_89 rfl fr_7_44
theorem x_83_92 {ls st : List Value} {h : Hp} {k : Nat} : ex 83 92 ls (.ref k :: st) h = if kd k = 1 then ex 83 95 ls (vl h k 3 :: st) h else none := x_getf hc_83 dX7_count_92 rfl fr_7_264
theorem x_83_95 {ls : List Value} {h : Hp} {v : Int32} : ex 83 95 ls [.int v] h = some (some (.int v), h) := x_iret hc_83 dX7_count_95 rfl
theorem x_83_96 {ls st : List Value} {h : Hp}  : ex 83 96 ls (st) h = gA (ldA ls 0) 83 97 ls st h := x_aload_n hc_83 dX7_count_96 rfl rfl
theorem x_83_97 {ls st : List Value} {h : Hp} {k : Nat} : ex 83 97 ls (.ref k :: st) h = if kd k = 7 then ex 83 100 ls (vl h k 15 :: st) h else none := x_getf hc_83 dX7_count_97 rfl fr_7_89
theorem x_83_100 {ls : List Value} {h : Hp} {v : Int32} : ex 83 100 ls [.int v] h = some (some (.int v), h) := x_iret hc_83 dX7_count_100 rfl
theorem x_83_101 {ls st : List Value} {h : Hp}  : ex 83 101 ls (st) h = gA (ldA ls 0) 83 102 ls st h := x_aload_n hc_83 dX7_count_101 rfl rfl
theorem x_83_102 {ls st : List Value} {h : Hp} {k : Nat} : ex 83 102 ls (.ref k :: st) h = if kd k = 7 then ex 83 105 ls (vl h k 16 :: st) h else none := x_getf hc_83 dX7_count_102 rfl fr_7_92
theorem x_83_105 {ls : List Value} {h : Hp} {v : Int32} : ex 83 105 ls [.int v] h = some (some (.int v), h) := x_iret hc_83 dX7_count_105 rfl
theorem x_83_106 {ls st : List Value} {h : Hp}  : ex 83 106 ls (st) h = gA (ldA ls 0) 83 107 ls st h := x_aload_n hc_83 dX7_count_106 rfl rfl
theorem x_83_107 {ls st : List Value} {h : Hp}  : ex 83 107 ls (st) h = ex 83 109 ls (.int (-7) :: st) h := x_bipush hc_83 dX7_count_107 rfl (by decide)
theorem x_83_109 {ls st : List Value} {h : Hp} {k : Nat} {a0 : Int32} : ex 83 109 ls (.int a0 :: .ref k :: st) h = if kd k = 7 ∧ st.length ≤ 4 then gC (ex 45 0 [.ref k, .int a0] [] h) 83 112 ls st else none := x_callV (as := [.int a0]) hc_83 dX7_count_109 rfl mr_7_104 rfl rfl rfl (by decide) (by decide)
theorem x_83_112 {ls : List Value} {h : Hp} {v : Int32} : ex 83 112 ls [.int v] h = some (some (.int v), h) := x_iret hc_83 dX7_count_112 rfl
theorem x_84_0 {ls st : List Value} {h : Hp}  : ex 84 0 ls (st) h = gA (ldA ls 0) 84 1 ls st h := x_aload_n hc_84 dX7_at_0 rfl rfl
theorem x_84_1 {ls st : List Value} {h : Hp}  : ex 84 1 ls (st) h = gI (ldI ls 1) 84 2 ls st h := x_iload_n hc_84 dX7_at_1 rfl rfl
theorem x_84_2 {ls st : List Value} {h : Hp} {k : Nat} {a0 : Int32} : ex 84 2 ls (.int a0 :: .ref k :: st) h = if kd k = 7 ∧ st.length ≤ 4 then gC (ex 47 0 [.ref k, .int a0] [] h) 84 5 ls st else none := x_callV (as := [.int a0]) hc_84 dX7_at_2 rfl mr_7_108 rfl rfl rfl (by decide) (by decide)
theorem x_84_5 {ls st : List Value} {h : Hp} {x : Int32} : ex 84 5 ls (.int x :: st) h = if x = 0 then ex 84 8 ls st h else ex 84 15 ls st h := x_if_ne hc_84 dX7_at_5 rfl (by decide)
theorem x_84_8 {ls st : List Value} {h : Hp}  : ex 84 8 ls (st) h = gA (ldA ls 0) 84 9 ls st h := x_aload_n hc_84 dX7_at_8 rfl rfl
theorem x_84_9 {ls st : List Value} {h : Hp}  : ex 84 9 ls (st) h = ex 84 11 ls (.int (-3) :: st) h := x_bipush hc_84 dX7_at_9 rfl (by decide)
theorem x_84_11 {ls st : List Value} {h : Hp} {k : Nat} {a0 : Int32} : ex 84 11 ls (.int a0 :: .ref k :: st) h = if kd k = 7 ∧ st.length ≤ 4 then gC (ex 45 0 [.ref k, .int a0] [] h) 84 14 ls st else none := x_callV (as := [.int a0]) hc_84 dX7_at_11 rfl mr_7_104 rfl rfl rfl (by decide) (by decide)
theorem x_84_14 {ls : List Value} {h : Hp} {v : Int32} : ex 84 14 ls [.int v] h = some (some (.int v), h) := x_iret hc_84 dX7_at_14 rfl
theorem x_84_15 {ls st : List Value} {h : Hp}  : ex 84 15 ls (st) h = gA (ldA ls 0) 84 16 ls st h := x_aload_n hc_84 dX7_at_15 rfl rfl
theorem x_84_16 {ls st : List Value} {h : Hp} {k : Nat} : ex 84 16 ls (.ref k :: st) h = if kd k = 7 then ex 84 19 ls (vl h k 0 :: st) h else none := x_getf hc_84 dX7_at_16 rfl fr_7_11
theorem x_84_19 {ls st : List Value} {h : Hp}  : ex 84 19 ls (st) h = gI (ldI ls 1) 84 20 ls st h := x_iload_n hc_84 dX7_at_19 rfl rfl
theorem x_84_20 {ls st : List Value} {h : Hp} {k : Nat} {x : Int32} : ex 84 20 ls (.int x :: .ref k :: st) h = if (11 ≤ kd k ∧ kd k ≤ 14) ∧ x.toNatClampNeg < ln k ∧ 0 ≤ x then gA (rf k x.toNatClampNeg) 84 21 ls st h else none := x_aald hc_84 dX7_at_20 rfl
theorem x_84_21 {ls st : List Value} {h : Hp} {x : Nat} : ex 84 21 ls (.ref x :: st) h = ex 84 22 (ls.set 3 (.ref x)) st h := x_astore_n hc_84 dX7_at_21 rfl rfl (by decide)
theorem x_84_22 {ls st : List Value} {h : Hp}  : ex 84 22 ls (st) h = gI (ldI ls 2) 84 23 ls st h := x_iload_n hc_84 dX7_at_22 rfl rfl
theorem x_84_23 {ls st : List Value} {h : Hp} {x : Int32} : ex 84 23 ls (.int x :: st) h = if x = 0 then ex 84 56 ls st h else if x = 1 then ex 84 66 ls st h else if x = 2 then ex 84 71 ls st h else if x = 3 then ex 84 76 ls st h else if x = 4 then ex 84 81 ls st h else ex 84 86 ls st h := by
  rw [x_tbl hc_84 dX7_at_23]
  by_cases h0 : x = 0
  · subst h0; rfl
  by_cases h1 : x = 1
  · subst h1; rfl
  by_cases h2 : x = 2
  · subst h2; rfl
  by_cases h3 : x = 3
  · subst h3; rfl
  by_cases h4 : x = 4
  · subst h4; rfl
  have hz : x.toInt < 0 ∨ 4 < x.toInt := by
    have e0 := lv_neT (a := 0) h0 (by decide)
    have e1 := lv_neT (a := 1) h1 (by decide)
    have e2 := lv_neT (a := 2) h2 (by decide)
    have e3 := lv_neT (a := 3) h3 (by decide)
    have e4 := lv_neT (a := 4) h4 (by decide)
    omega
  rw [if_pos hz, if_neg h0, if_neg h1, if_neg h2, if_neg h3, if_neg h4]
  rfl
theorem x_84_56 {ls st : List Value} {h : Hp}  : ex 84 56 ls (st) h = gA (ldA ls 0) 84 57 ls st h := x_aload_n hc_84 dX7_at_56 rfl rfl
theorem x_84_57 {ls st : List Value} {h : Hp} {k : Nat} : ex 84 57 ls (.ref k :: st) h = if kd k = 7 then ex 84 60 ls (vl h k 5 :: st) h else none := x_getf hc_84 dX7_at_57 rfl fr_7_44
theorem x_84_60 {ls st : List Value} {h : Hp} {k : Nat} : ex 84 60 ls (.ref k :: st) h = if kd k = 1 then ex 84 63 ls (vl h k 0 :: st) h else none := x_getf hc_84 dX7_at_60 rfl fr_7_112
theorem x_84_63 {ls st : List Value} {h : Hp}  : ex 84 63 ls (st) h = gI (ldI ls 1) 84 64 ls st h := x_iload_n hc_84 dX7_at_63 rfl rfl
theorem x_84_64 {ls st : List Value} {h : Hp} {k : Nat} {x : Int32} : ex 84 64 ls (.int x :: .ref k :: st) h = if kd k = 9 ∧ x.toNatClampNeg < ln k ∧ 0 ≤ x then ex 84 65 ls (.int (h k x.toNatClampNeg) :: st) h else none := x_iald hc_84 dX7_at_64 rfl
theorem x_84_65 {ls : List Value} {h : Hp} {v : Int32} : ex 84 65 ls [.int v] h = some (some (.int v), h) := x_iret hc_84 dX7_at_65 rfl
theorem x_84_66 {ls st : List Value} {h : Hp}  : ex 84 66 ls (st) h = gA (ldA ls 3) 84 67 ls st h := x_aload_n hc_84 dX7_at_66 rfl rfl
theorem x_84_67 {ls st : List Value} {h : Hp} {k : Nat} : ex 84 67 ls (.ref k :: st) h = if kd k = 4 then ex 84 70 ls (vl h k 4 :: st) h else none := x_getf hc_84 dX7_at_67 rfl fr_7_116
theorem x_84_70 {ls : List Value} {h : Hp} {v : Int32} : ex 84 70 ls [.int v] h = some (some (.int v), h) := x_iret hc_84 dX7_at_70 rfl
theorem x_84_71 {ls st : List Value} {h : Hp}  : ex 84 71 ls (st) h = gA (ldA ls 3) 84 72 ls st h := x_aload_n hc_84 dX7_at_71 rfl rfl
theorem x_84_72 {ls st : List Value} {h : Hp} {k : Nat} : ex 84 72 ls (.ref k :: st) h = if kd k = 4 then ex 84 75 ls (vl h k 5 :: st) h else none := x_getf hc_84 dX7_at_72 rfl fr_7_119
theorem x_84_75 {ls : List Value} {h : Hp} {v : Int32} : ex 84 75 ls [.int v] h = some (some (.int v), h) := x_iret hc_84 dX7_at_75 rfl
theorem x_84_76 {ls st : List Value} {h : Hp}  : ex 84 76 ls (st) h = gA (ldA ls 3) 84 77 ls st h := x_aload_n hc_84 dX7_at_76 rfl rfl
theorem x_84_77 {ls st : List Value} {h : Hp} {k : Nat} : ex 84 77 ls (.ref k :: st) h = if kd k = 4 then ex 84 80 ls (vl h k 6 :: st) h else none := x_getf hc_84 dX7_at_77 rfl fr_7_192
theorem x_84_80 {ls : List Value} {h : Hp} {v : Int32} : ex 84 80 ls [.int v] h = some (some (.int v), h) := x_iret hc_84 dX7_at_80 rfl
theorem x_84_81 {ls st : List Value} {h : Hp}  : ex 84 81 ls (st) h = gA (ldA ls 3) 84 82 ls st h := x_aload_n hc_84 dX7_at_81 rfl rfl
theorem x_84_82 {ls st : List Value} {h : Hp} {k : Nat} : ex 84 82 ls (.ref k :: st) h = if kd k = 4 then ex 84 85 ls (vl h k 7 :: st) h else none := x_getf hc_84 dX7_at_82 rfl fr_7_97
theorem x_84_85 {ls : List Value} {h : Hp} {v : Int32} : ex 84 85 ls [.int v] h = some (some (.int v), h) := x_iret hc_84 dX7_at_85 rfl
theorem x_84_86 {ls st : List Value} {h : Hp}  : ex 84 86 ls (st) h = gA (ldA ls 0) 84 87 ls st h := x_aload_n hc_84 dX7_at_86 rfl rfl
theorem x_84_87 {ls st : List Value} {h : Hp}  : ex 84 87 ls (st) h = ex 84 89 ls (.int (-7) :: st) h := x_bipush hc_84 dX7_at_87 rfl (by decide)
theorem x_84_89 {ls st : List Value} {h : Hp} {k : Nat} {a0 : Int32} : ex 84 89 ls (.int a0 :: .ref k :: st) h = if kd k = 7 ∧ st.length ≤ 4 then gC (ex 45 0 [.ref k, .int a0] [] h) 84 92 ls st else none := x_callV (as := [.int a0]) hc_84 dX7_at_89 rfl mr_7_104 rfl rfl rfl (by decide) (by decide)
theorem x_84_92 {ls : List Value} {h : Hp} {v : Int32} : ex 84 92 ls [.int v] h = some (some (.int v), h) := x_iret hc_84 dX7_at_92 rfl
theorem x_85_0 {ls st : List Value} {h : Hp}  : ex 85 0 ls (st) h = gI (ldI ls 1) 85 1 ls st h := x_iload_n hc_85 dX7_tell_0 rfl rfl
theorem x_85_1 {ls st : List Value} {h : Hp}  : ex 85 1 ls (st) h = ex 85 2 ls (.int (0) :: st) h := x_iconst hc_85 dX7_tell_1 rfl (by decide)
theorem x_85_2 {ls st : List Value} {h : Hp}  : ex 85 2 ls (st) h = ex 85 4 ls (.int (47) :: st) h := x_bipush hc_85 dX7_tell_2 rfl (by decide)
theorem x_85_4 {ls st : List Value} {h : Hp} {a0 : Int32} {a1 : Int32} {a2 : Int32} : ex 85 4 ls (.int a2 :: .int a1 :: .int a0 :: st) h = if st.length ≤ 4 then gC (ex 44 0 [.int a0, .int a1, .int a2] [] h) 85 7 ls st else none := x_callS (as := [.int a0, .int a1, .int a2]) hc_85 dX7_tell_4 rfl mr_7_100 rfl rfl rfl (by decide)
theorem x_85_7 {ls st : List Value} {h : Hp} {x : Int32} : ex 85 7 ls (.int x :: st) h = if x = 0 then ex 85 10 ls st h else ex 85 17 ls st h := x_if_ne hc_85 dX7_tell_7 rfl (by decide)
theorem x_85_10 {ls st : List Value} {h : Hp}  : ex 85 10 ls (st) h = gA (ldA ls 0) 85 11 ls st h := x_aload_n hc_85 dX7_tell_10 rfl rfl
theorem x_85_11 {ls st : List Value} {h : Hp}  : ex 85 11 ls (st) h = ex 85 13 ls (.int (-3) :: st) h := x_bipush hc_85 dX7_tell_11 rfl (by decide)
theorem x_85_13 {ls st : List Value} {h : Hp} {k : Nat} {a0 : Int32} : ex 85 13 ls (.int a0 :: .ref k :: st) h = if kd k = 7 ∧ st.length ≤ 4 then gC (ex 45 0 [.ref k, .int a0] [] h) 85 16 ls st else none := x_callV (as := [.int a0]) hc_85 dX7_tell_13 rfl mr_7_104 rfl rfl rfl (by decide) (by decide)
theorem x_85_16 {ls : List Value} {h : Hp} {v : Int32} : ex 85 16 ls [.int v] h = some (some (.int v), h) := x_iret hc_85 dX7_tell_16 rfl
theorem x_85_17 {ls st : List Value} {h : Hp}  : ex 85 17 ls (st) h = gI (ldI ls 2) 85 18 ls st h := x_iload_n hc_85 dX7_tell_17 rfl rfl
theorem x_85_18 {ls st : List Value} {h : Hp}  : ex 85 18 ls (st) h = ex 85 21 ls (.int (-9999) :: st) h := x_sipush hc_85 dX7_tell_18 rfl (by decide)
theorem x_85_21 {ls st : List Value} {h : Hp}  : ex 85 21 ls (st) h = ex 85 24 ls (.int (9999) :: st) h := x_sipush hc_85 dX7_tell_21 rfl (by decide)
theorem x_85_24 {ls st : List Value} {h : Hp} {a0 : Int32} {a1 : Int32} {a2 : Int32} : ex 85 24 ls (.int a2 :: .int a1 :: .int a0 :: st) h = if st.length ≤ 4 then gC (ex 44 0 [.int a0, .int a1, .int a2] [] h) 85 27 ls st else none := x_callS (as := [.int a0, .int a1, .int a2]) hc_85 dX7_tell_24 rfl mr_7_100 rfl rfl rfl (by decide)
theorem x_85_27 {ls st : List Value} {h : Hp} {x : Int32} : ex 85 27 ls (.int x :: st) h = if x = 0 then ex 85 30 ls st h else ex 85 37 ls st h := x_if_ne hc_85 dX7_tell_27 rfl (by decide)
theorem x_85_30 {ls st : List Value} {h : Hp}  : ex 85 30 ls (st) h = gA (ldA ls 0) 85 31 ls st h := x_aload_n hc_85 dX7_tell_30 rfl rfl
theorem x_85_31 {ls st : List Value} {h : Hp}  : ex 85 31 ls (st) h = ex 85 33 ls (.int (-7) :: st) h := x_bipush hc_85 dX7_tell_31 rfl (by decide)
theorem x_85_33 {ls st : List Value} {h : Hp} {k : Nat} {a0 : Int32} : ex 85 33 ls (.int a0 :: .ref k :: st) h = if kd k = 7 ∧ st.length ≤ 4 then gC (ex 45 0 [.ref k, .int a0] [] h) 85 36 ls st else none := x_callV (as := [.int a0]) hc_85 dX7_tell_33 rfl mr_7_104 rfl rfl rfl (by decide) (by decide)
theorem x_85_36 {ls : List Value} {h : Hp} {v : Int32} : ex 85 36 ls [.int v] h = some (some (.int v), h) := x_iret hc_85 dX7_tell_36 rfl
theorem x_85_37 {ls st : List Value} {h : Hp}  : ex 85 37 ls (st) h = gA (ldA ls 0) 85 38 ls st h := x_aload_n hc_85 dX7_tell_37 rfl rfl
theorem x_85_38 {ls st : List Value} {h : Hp} {k : Nat} : ex 85 38 ls (.ref k :: st) h = if kd k = 7 then ex 85 41 ls (vl h k 4 :: st) h else none := x_getf hc_85 dX7_tell_38 rfl fr_7_37
theorem x_85_41 {ls st : List Value} {h : Hp}  : ex 85 41 ls (st) h = gI (ldI ls 1) 85 42 ls st h := x_iload_n hc_85 dX7_tell_41 rfl rfl
theorem x_85_42 {ls st : List Value} {h : Hp}  : ex 85 42 ls (st) h = gI (ldI ls 2) 85 43 ls st h := x_iload_n hc_85 dX7_tell_42 rfl rfl
theorem x_85_43 {ls st : List Value} {h : Hp} {k : Nat} {a0 : Int32} {a1 : Int32} : ex 85 43 ls (.int a1 :: .int a0 :: .ref k :: st) h = if kd k = 2 ∧ st.length ≤ 4 then gC (ex 17 0 [.ref k, .int a0, .int a1] [] h) 85 46 ls st else none := x_callV (as := [.int a0, .int a1]) hc_85 dX7_tell_43 rfl mr_7_267 rfl rfl rfl (by decide) (by decide)
theorem x_85_46 {ls st : List Value} {h : Hp}  : ex 85 46 ls (st) h = ex 85 47 ls (.int (1) :: st) h := x_iconst hc_85 dX7_tell_46 rfl (by decide)
theorem x_85_47 {ls : List Value} {h : Hp} {v : Int32} : ex 85 47 ls [.int v] h = some (some (.int v), h) := x_iret hc_85 dX7_tell_47 rfl
theorem x_86_0 {ls st : List Value} {h : Hp}  : ex 86 0 ls (st) h = gA (ldA ls 0) 86 1 ls st h := x_aload_n hc_86 dX7_tear_0 rfl rfl
theorem x_86_1 {ls st : List Value} {h : Hp} {k : Nat} : ex 86 1 ls (.ref k :: st) h = if kd k = 7 then ex 86 4 ls (vl h k 4 :: st) h else none := x_getf hc_86 dX7_tear_1 rfl fr_7_37
theorem x_86_4 {ls st : List Value} {h : Hp} {k : Nat} : ex 86 4 ls (.ref k :: st) h = if kd k = 2 then ex 86 7 ls (vl h k 1 :: st) h else none := x_getf hc_86 dX7_tear_4 rfl fr_7_134
theorem x_86_7 {ls st : List Value} {h : Hp} {x : Int32} : ex 86 7 ls (.int x :: st) h = if x = 0 then ex 86 14 ls st h else ex 86 10 ls st h := x_if_eq hc_86 dX7_tear_7 rfl (by decide)
theorem x_86_10 {ls st : List Value} {h : Hp}  : ex 86 10 ls (st) h = ex 86 11 ls (.int (1) :: st) h := x_iconst hc_86 dX7_tear_10 rfl (by decide)
theorem x_86_11 {ls st : List Value} {h : Hp}  : ex 86 11 ls (st) h = ex 86 15 ls st h := x_goto hc_86 dX7_tear_11 (by decide)
theorem x_86_14 {ls st : List Value} {h : Hp}  : ex 86 14 ls (st) h = ex 86 15 ls (.int (0) :: st) h := x_iconst hc_86 dX7_tear_14 rfl (by decide)
theorem x_86_15 {ls st : List Value} {h : Hp} {x : Int32} : ex 86 15 ls (.int x :: st) h = ex 86 16 (ls.set 1 (.int x)) st h := x_istore_n hc_86 dX7_tear_15 rfl rfl (by decide)
theorem x_86_16 {ls st : List Value} {h : Hp}  : ex 86 16 ls (st) h = gA (ldA ls 0) 86 17 ls st h := x_aload_n hc_86 dX7_tear_16 rfl rfl
theorem x_86_17 {ls st : List Value} {h : Hp} {k : Nat} : ex 86 17 ls (.ref k :: st) h = if kd k = 7 then ex 86 20 ls (vl h k 4 :: st) h else none := x_getf hc_86 dX7_tear_17 rfl fr_7_37
theorem x_86_20 {ls st : List Value} {h : Hp}  : ex 86 20 ls (st) h = ex 86 21 ls (.int (0) :: st) h := x_iconst hc_86 dX7_tear_20 rfl (by decide)
theorem x_86_21 {ls st : List Value} {h : Hp} {k : Nat} {x : Int32} : ex 86 21 ls (.int x :: .ref k :: st) h = if kd k = 2 ∧ (x = 0 ∨ x = 1) then ex 86 24 ls st (hu h k 1 x) else none := x_putz hc_86 dX7_tear_21 rfl fr_7_134 (by decide)
theorem x_86_24 {ls st : List Value} {h : Hp}  : ex 86 24 ls (st) h = gI (ldI ls 1) 86 25 ls st h := x_iload_n hc_86 dX7_tear_24 rfl rfl
theorem x_86_25 {ls : List Value} {h : Hp} {v : Int32} : ex 86 25 ls [.int v] h = some (some (.int v), h) := x_iret hc_86 dX7_tear_25 rfl
theorem x_87_0 {ls st : List Value} {h : Hp}  : ex 87 0 ls (st) h = gA (ldA ls 0) 87 1 ls st h := x_aload_n hc_87 dX7_row_0 rfl rfl
theorem x_87_1 {ls st : List Value} {h : Hp} {k : Nat} : ex 87 1 ls (.ref k :: st) h = if kd k = 7 then ex 87 4 ls (vl h k 4 :: st) h else none := x_getf hc_87 dX7_row_1 rfl fr_7_37
theorem x_87_4 {ls st : List Value} {h : Hp} {k : Nat} : ex 87 4 ls (.ref k :: st) h = if kd k = 2 then ex 87 7 ls (vl h k 1 :: st) h else none := x_getf hc_87 dX7_row_4 rfl fr_7_134
theorem x_87_7 {ls st : List Value} {h : Hp} {x : Int32} : ex 87 7 ls (.int x :: st) h = if x = 0 then ex 87 10 ls st h else ex 87 17 ls st h := x_if_ne hc_87 dX7_row_7 rfl (by decide)
theorem x_87_10 {ls st : List Value} {h : Hp}  : ex 87 10 ls (st) h = gA (ldA ls 0) 87 11 ls st h := x_aload_n hc_87 dX7_row_10 rfl rfl
theorem x_87_11 {ls st : List Value} {h : Hp}  : ex 87 11 ls (st) h = ex 87 13 ls (.int (-2) :: st) h := x_bipush hc_87 dX7_row_11 rfl (by decide)
theorem x_87_13 {ls st : List Value} {h : Hp} {k : Nat} {a0 : Int32} : ex 87 13 ls (.int a0 :: .ref k :: st) h = if kd k = 7 ∧ st.length ≤ 4 then gC (ex 51 0 [.ref k, .int a0] [] h) 87 16 ls st else none := x_callV (as := [.int a0]) hc_87 dX7_row_13 rfl mr_7_122 rfl rfl rfl (by decide) (by decide)
theorem x_87_16 {ls : List Value} {h : Hp} {v : Int32} : ex 87 16 ls [.int v] h = some (some (.int v), h) := x_iret hc_87 dX7_row_16 rfl
theorem x_87_17 {ls st : List Value} {h : Hp}  : ex 87 17 ls (st) h = gI (ldI ls 1) 87 18 ls st h := x_iload_n hc_87 dX7_row_17 rfl rfl
theorem x_87_18 {ls st : List Value} {h : Hp}  : ex 87 18 ls (st) h = ex 87 19 ls (.int (0) :: st) h := x_iconst hc_87 dX7_row_18 rfl (by decide)
theorem x_87_19 {ls st : List Value} {h : Hp}  : ex 87 19 ls (st) h = ex 87 21 ls (.int (47) :: st) h := x_bipush hc_87 dX7_row_19 rfl (by decide)
theorem x_87_21 {ls st : List Value} {h : Hp} {a0 : Int32} {a1 : Int32} {a2 : Int32} : ex 87 21 ls (.int a2 :: .int a1 :: .int a0 :: st) h = if st.length ≤ 4 then gC (ex 44 0 [.int a0, .int a1, .int a2] [] h) 87 24 ls st else none := x_callS (as := [.int a0, .int a1, .int a2]) hc_87 dX7_row_21 rfl mr_7_100 rfl rfl rfl (by decide)
theorem x_87_24 {ls st : List Value} {h : Hp} {x : Int32} : ex 87 24 ls (.int x :: st) h = if x = 0 then ex 87 27 ls st h else ex 87 34 ls st h := x_if_ne hc_87 dX7_row_24 rfl (by decide)
theorem x_87_27 {ls st : List Value} {h : Hp}  : ex 87 27 ls (st) h = gA (ldA ls 0) 87 28 ls st h := x_aload_n hc_87 dX7_row_27 rfl rfl
theorem x_87_28 {ls st : List Value} {h : Hp}  : ex 87 28 ls (st) h = ex 87 30 ls (.int (-3) :: st) h := x_bipush hc_87 dX7_row_28 rfl (by decide)
theorem x_87_30 {ls st : List Value} {h : Hp} {k : Nat} {a0 : Int32} : ex 87 30 ls (.int a0 :: .ref k :: st) h = if kd k = 7 ∧ st.length ≤ 4 then gC (ex 51 0 [.ref k, .int a0] [] h) 87 33 ls st else none := x_callV (as := [.int a0]) hc_87 dX7_row_30 rfl mr_7_122 rfl rfl rfl (by decide) (by decide)
theorem x_87_33 {ls : List Value} {h : Hp} {v : Int32} : ex 87 33 ls [.int v] h = some (some (.int v), h) := x_iret hc_87 dX7_row_33 rfl
theorem x_87_34 {ls st : List Value} {h : Hp}  : ex 87 34 ls (st) h = gA (ldA ls 0) 87 35 ls st h := x_aload_n hc_87 dX7_row_34 rfl rfl
theorem x_87_35 {ls st : List Value} {h : Hp} {k : Nat} : ex 87 35 ls (.ref k :: st) h = if kd k = 7 then ex 87 38 ls (vl h k 4 :: st) h else none := x_getf hc_87 dX7_row_35 rfl fr_7_37
theorem x_87_38 {ls st : List Value} {h : Hp} {k : Nat} : ex 87 38 ls (.ref k :: st) h = if kd k = 2 then ex 87 41 ls (vl h k 0 :: st) h else none := x_getf hc_87 dX7_row_38 rfl fr_7_138
theorem x_87_41 {ls st : List Value} {h : Hp}  : ex 87 41 ls (st) h = gI (ldI ls 1) 87 42 ls st h := x_iload_n hc_87 dX7_row_41 rfl rfl
theorem x_87_42 {ls st : List Value} {h : Hp} {k : Nat} {x : Int32} : ex 87 42 ls (.int x :: .ref k :: st) h = if kd k = 9 ∧ x.toNatClampNeg < ln k ∧ 0 ≤ x then ex 87 43 ls (.int (h k x.toNatClampNeg) :: st) h else none := x_iald hc_87 dX7_row_42 rfl
theorem x_87_43 {ls : List Value} {h : Hp} {v : Int32} : ex 87 43 ls [.int v] h = some (some (.int v), h) := x_iret hc_87 dX7_row_43 rfl
theorem x_88_0 {ls st : List Value} {h : Hp}  : ex 88 0 ls (st) h = gA (ldA ls 0) 88 1 ls st h := x_aload_n hc_88 dX7_copy_0 rfl rfl
theorem x_88_1 {ls st : List Value} {h : Hp} {k : Nat} : ex 88 1 ls (.ref k :: st) h = if kd k = 7 then ex 88 4 ls (vl h k 4 :: st) h else none := x_getf hc_88 dX7_copy_1 rfl fr_7_37
theorem x_88_4 {ls st : List Value} {h : Hp} {k : Nat} : ex 88 4 ls (.ref k :: st) h = if kd k = 2 then ex 88 7 ls (vl h k 1 :: st) h else none := x_getf hc_88 dX7_copy_4 rfl fr_7_134
theorem x_88_7 {ls st : List Value} {h : Hp} {x : Int32} : ex 88 7 ls (.int x :: st) h = if x = 0 then ex 88 10 ls st h else ex 88 17 ls st h := x_if_ne hc_88 dX7_copy_7 rfl (by decide)
theorem x_88_10 {ls st : List Value} {h : Hp}  : ex 88 10 ls (st) h = gA (ldA ls 0) 88 11 ls st h := x_aload_n hc_88 dX7_copy_10 rfl rfl
theorem x_88_11 {ls st : List Value} {h : Hp}  : ex 88 11 ls (st) h = ex 88 13 ls (.int (-2) :: st) h := x_bipush hc_88 dX7_copy_11 rfl (by decide)
theorem x_88_13 {ls st : List Value} {h : Hp} {k : Nat} {a0 : Int32} : ex 88 13 ls (.int a0 :: .ref k :: st) h = if kd k = 7 ∧ st.length ≤ 4 then gC (ex 45 0 [.ref k, .int a0] [] h) 88 16 ls st else none := x_callV (as := [.int a0]) hc_88 dX7_copy_13 rfl mr_7_104 rfl rfl rfl (by decide) (by decide)
theorem x_88_16 {ls : List Value} {h : Hp} {v : Int32} : ex 88 16 ls [.int v] h = some (some (.int v), h) := x_iret hc_88 dX7_copy_16 rfl
theorem x_88_17 {ls st : List Value} {h : Hp}  : ex 88 17 ls (st) h = gI (ldI ls 3) 88 18 ls st h := x_iload_n hc_88 dX7_copy_17 rfl rfl
theorem x_88_18 {ls st : List Value} {h : Hp} {x : Int32} : ex 88 18 ls (.int x :: st) h = if x < 0 then ex 88 21 ls st h else ex 88 28 ls st h := x_if_ge hc_88 dX7_copy_18 rfl (by decide)
theorem x_88_21 {ls st : List Value} {h : Hp}  : ex 88 21 ls (st) h = gA (ldA ls 0) 88 22 ls st h := x_aload_n hc_88 dX7_copy_21 rfl rfl
theorem x_88_22 {ls st : List Value} {h : Hp}  : ex 88 22 ls (st) h = ex 88 24 ls (.int (-4) :: st) h := x_bipush hc_88 dX7_copy_22 rfl (by decide)
theorem x_88_24 {ls st : List Value} {h : Hp} {k : Nat} {a0 : Int32} : ex 88 24 ls (.int a0 :: .ref k :: st) h = if kd k = 7 ∧ st.length ≤ 4 then gC (ex 45 0 [.ref k, .int a0] [] h) 88 27 ls st else none := x_callV (as := [.int a0]) hc_88 dX7_copy_24 rfl mr_7_104 rfl rfl rfl (by decide) (by decide)
theorem x_88_27 {ls : List Value} {h : Hp} {v : Int32} : ex 88 27 ls [.int v] h = some (some (.int v), h) := x_iret hc_88 dX7_copy_27 rfl
theorem x_88_28 {ls st : List Value} {h : Hp}  : ex 88 28 ls (st) h = gI (ldI ls 1) 88 29 ls st h := x_iload_n hc_88 dX7_copy_28 rfl rfl
theorem x_88_29 {ls st : List Value} {h : Hp}  : ex 88 29 ls (st) h = ex 88 30 ls (.int (0) :: st) h := x_iconst hc_88 dX7_copy_29 rfl (by decide)
theorem x_88_30 {ls st : List Value} {h : Hp}  : ex 88 30 ls (st) h = ex 88 32 ls (.int (48) :: st) h := x_bipush hc_88 dX7_copy_30 rfl (by decide)
theorem x_88_32 {ls st : List Value} {h : Hp}  : ex 88 32 ls (st) h = gI (ldI ls 3) 88 33 ls st h := x_iload_n hc_88 dX7_copy_32 rfl rfl
theorem x_88_33 {ls st : List Value} {h : Hp} {a b : Int32} : ex 88 33 ls (.int b :: .int a :: st) h = ex 88 34 ls (.int (a - b) :: st) h := x_isub hc_88 dX7_copy_33 rfl
theorem x_88_34 {ls st : List Value} {h : Hp} {a0 : Int32} {a1 : Int32} {a2 : Int32} : ex 88 34 ls (.int a2 :: .int a1 :: .int a0 :: st) h = if st.length ≤ 4 then gC (ex 44 0 [.int a0, .int a1, .int a2] [] h) 88 37 ls st else none := x_callS (as := [.int a0, .int a1, .int a2]) hc_88 dX7_copy_34 rfl mr_7_100 rfl rfl rfl (by decide)
theorem x_88_37 {ls st : List Value} {h : Hp} {x : Int32} : ex 88 37 ls (.int x :: st) h = if x = 0 then ex 88 52 ls st h else ex 88 40 ls st h := x_if_eq hc_88 dX7_copy_37 rfl (by decide)
theorem x_88_40 {ls st : List Value} {h : Hp}  : ex 88 40 ls (st) h = gI (ldI ls 2) 88 41 ls st h := x_iload_n hc_88 dX7_copy_40 rfl rfl
theorem x_88_41 {ls st : List Value} {h : Hp}  : ex 88 41 ls (st) h = ex 88 42 ls (.int (0) :: st) h := x_iconst hc_88 dX7_copy_41 rfl (by decide)
theorem x_88_42 {ls st : List Value} {h : Hp}  : ex 88 42 ls (st) h = ex 88 44 ls (.int (48) :: st) h := x_bipush hc_88 dX7_copy_42 rfl (by decide)
theorem x_88_44 {ls st : List Value} {h : Hp}  : ex 88 44 ls (st) h = gI (ldI ls 3) 88 45 ls st h := x_iload_n hc_88 dX7_copy_44 rfl rfl
theorem x_88_45 {ls st : List Value} {h : Hp} {a b : Int32} : ex 88 45 ls (.int b :: .int a :: st) h = ex 88 46 ls (.int (a - b) :: st) h := x_isub hc_88 dX7_copy_45 rfl
theorem x_88_46 {ls st : List Value} {h : Hp} {a0 : Int32} {a1 : Int32} {a2 : Int32} : ex 88 46 ls (.int a2 :: .int a1 :: .int a0 :: st) h = if st.length ≤ 4 then gC (ex 44 0 [.int a0, .int a1, .int a2] [] h) 88 49 ls st else none := x_callS (as := [.int a0, .int a1, .int a2]) hc_88 dX7_copy_46 rfl mr_7_100 rfl rfl rfl (by decide)
theorem x_88_49 {ls st : List Value} {h : Hp} {x : Int32} : ex 88 49 ls (.int x :: st) h = if x = 0 then ex 88 52 ls st h else ex 88 59 ls st h := x_if_ne hc_88 dX7_copy_49 rfl (by decide)
theorem x_88_52 {ls st : List Value} {h : Hp}  : ex 88 52 ls (st) h = gA (ldA ls 0) 88 53 ls st h := x_aload_n hc_88 dX7_copy_52 rfl rfl
theorem x_88_53 {ls st : List Value} {h : Hp}  : ex 88 53 ls (st) h = ex 88 55 ls (.int (-6) :: st) h := x_bipush hc_88 dX7_copy_53 rfl (by decide)
theorem x_88_55 {ls st : List Value} {h : Hp} {k : Nat} {a0 : Int32} : ex 88 55 ls (.int a0 :: .ref k :: st) h = if kd k = 7 ∧ st.length ≤ 4 then gC (ex 45 0 [.ref k, .int a0] [] h) 88 58 ls st else none := x_callV (as := [.int a0]) hc_88 dX7_copy_55 rfl mr_7_104 rfl rfl rfl (by decide) (by decide)
theorem x_88_58 {ls : List Value} {h : Hp} {v : Int32} : ex 88 58 ls [.int v] h = some (some (.int v), h) := x_iret hc_88 dX7_copy_58 rfl
theorem x_88_59 {ls st : List Value} {h : Hp}  : ex 88 59 ls (st) h = gA (ldA ls 0) 88 60 ls st h := x_aload_n hc_88 dX7_copy_59 rfl rfl
theorem x_88_60 {ls st : List Value} {h : Hp} {k : Nat} : ex 88 60 ls (.ref k :: st) h = if kd k = 7 then ex 88 63 ls (vl h k 4 :: st) h else none := x_getf hc_88 dX7_copy_60 rfl fr_7_37
theorem x_88_63 {ls st : List Value} {h : Hp} {k : Nat} : ex 88 63 ls (.ref k :: st) h = if kd k = 2 then ex 88 66 ls (vl h k 0 :: st) h else none := x_getf hc_88 dX7_copy_63 rfl fr_7_138
theorem x_88_66 {ls st : List Value} {h : Hp}  : ex 88 66 ls (st) h = gI (ldI ls 1) 88 67 ls st h := x_iload_n hc_88 dX7_copy_66 rfl rfl
theorem x_88_67 {ls st : List Value} {h : Hp}  : ex 88 67 ls (st) h = gA (ldA ls 0) 88 68 ls st h := x_aload_n hc_88 dX7_copy_67 rfl rfl
theorem x_88_68 {ls st : List Value} {h : Hp} {k : Nat} : ex 88 68 ls (.ref k :: st) h = if kd k = 7 then ex 88 71 ls (vl h k 4 :: st) h else none := x_getf hc_88 dX7_copy_68 rfl fr_7_37
theorem x_88_71 {ls st : List Value} {h : Hp} {k : Nat} : ex 88 71 ls (.ref k :: st) h = if kd k = 2 then ex 88 74 ls (vl h k 0 :: st) h else none := x_getf hc_88 dX7_copy_71 rfl fr_7_138
theorem x_88_74 {ls st : List Value} {h : Hp}  : ex 88 74 ls (st) h = gI (ldI ls 2) 88 75 ls st h := x_iload_n hc_88 dX7_copy_74 rfl rfl
theorem x_88_75 {ls st : List Value} {h : Hp}  : ex 88 75 ls (st) h = gI (ldI ls 3) 88 76 ls st h := x_iload_n hc_88 dX7_copy_75 rfl rfl
theorem x_88_76 {ls st : List Value} {h : Hp} {k0 k1 : Nat} {sp dp n : Int32} : ex 88 76 ls (.int n :: .int dp :: .ref k1 :: .int sp :: .ref k0 :: st) h = if (kd k0 = 9 ∧ kd k1 = 9) ∧ (¬ sp < 0 ∧ ¬ dp < 0 ∧ ¬ n < 0) ∧ (sp.toNatClampNeg + n.toNatClampNeg ≤ ln k0 ∧ dp.toNatClampNeg + n.toNatClampNeg ≤ ln k1) ∧ st.length ≤ 4 then ex 88 79 ls st (hw h k1 (va_cpy (h k0) (h k1) sp.toNatClampNeg dp.toNatClampNeg n.toNatClampNeg)) else none := x_copy hc_88 dX7_copy_76 rfl mn_7_270 pr_7_270 (by decide)
theorem x_88_79 {ls st : List Value} {h : Hp}  : ex 88 79 ls (st) h = gI (ldI ls 3) 88 80 ls st h := x_iload_n hc_88 dX7_copy_79 rfl rfl
theorem x_88_80 {ls : List Value} {h : Hp} {v : Int32} : ex 88 80 ls [.int v] h = some (some (.int v), h) := x_iret hc_88 dX7_copy_80 rfl
theorem x_89_0 {ls st : List Value} {h : Hp}  : ex 89 0 ls (st) h = gI (ldI ls 1) 89 1 ls st h := x_iload_n hc_89 dX7_status_0 rfl rfl
theorem x_89_1 {ls st : List Value} {h : Hp}  : ex 89 1 ls (st) h = ex 89 3 ls (.int (-8) :: st) h := x_bipush hc_89 dX7_status_1 rfl (by decide)
theorem x_89_3 {ls st : List Value} {h : Hp}  : ex 89 3 ls (st) h = ex 89 5 ls (.int (-2) :: st) h := x_bipush hc_89 dX7_status_3 rfl (by decide)
theorem x_89_5 {ls st : List Value} {h : Hp} {a0 : Int32} {a1 : Int32} {a2 : Int32} : ex 89 5 ls (.int a2 :: .int a1 :: .int a0 :: st) h = if st.length ≤ 4 then gC (ex 44 0 [.int a0, .int a1, .int a2] [] h) 89 8 ls st else none := x_callS (as := [.int a0, .int a1, .int a2]) hc_89 dX7_status_5 rfl mr_7_100 rfl rfl rfl (by decide)
theorem x_89_8 {ls st : List Value} {h : Hp} {x : Int32} : ex 89 8 ls (.int x :: st) h = if x = 0 then ex 89 11 ls st h else ex 89 18 ls st h := x_if_ne hc_89 dX7_status_8 rfl (by decide)
theorem x_89_11 {ls st : List Value} {h : Hp}  : ex 89 11 ls (st) h = gA (ldA ls 0) 89 12 ls st h := x_aload_n hc_89 dX7_status_11 rfl rfl
theorem x_89_12 {ls st : List Value} {h : Hp}  : ex 89 12 ls (st) h = ex 89 14 ls (.int (-7) :: st) h := x_bipush hc_89 dX7_status_12 rfl (by decide)
theorem x_89_14 {ls st : List Value} {h : Hp} {k : Nat} {a0 : Int32} : ex 89 14 ls (.int a0 :: .ref k :: st) h = if kd k = 7 ∧ st.length ≤ 4 then gC (ex 45 0 [.ref k, .int a0] [] h) 89 17 ls st else none := x_callV (as := [.int a0]) hc_89 dX7_status_14 rfl mr_7_104 rfl rfl rfl (by decide) (by decide)
theorem x_89_17 {ls : List Value} {h : Hp} {v : Int32} : ex 89 17 ls [.int v] h = some (some (.int v), h) := x_iret hc_89 dX7_status_17 rfl
theorem x_89_18 {ls st : List Value} {h : Hp}  : ex 89 18 ls (st) h = gA (ldA ls 0) 89 19 ls st h := x_aload_n hc_89 dX7_status_18 rfl rfl
theorem x_89_19 {ls st : List Value} {h : Hp} {k : Nat} : ex 89 19 ls (.ref k :: st) h = if kd k = 7 then ex 89 22 ls (vl h k 8 :: st) h else none := x_getf hc_89 dX7_status_19 rfl fr_7_63
theorem x_89_22 {ls st : List Value} {h : Hp}  : ex 89 22 ls (st) h = gI (ldI ls 1) 89 23 ls st h := x_iload_n hc_89 dX7_status_22 rfl rfl
theorem x_89_23 {ls st : List Value} {h : Hp} {a : Int32} : ex 89 23 ls (.int a :: st) h = ex 89 24 ls (.int (-a) :: st) h := x_ineg hc_89 dX7_status_23 rfl
theorem x_89_24 {ls st : List Value} {h : Hp} {k : Nat} {x : Int32} : ex 89 24 ls (.int x :: .ref k :: st) h = if kd k = 9 ∧ x.toNatClampNeg < ln k ∧ 0 ≤ x then ex 89 25 ls (.int (h k x.toNatClampNeg) :: st) h else none := x_iald hc_89 dX7_status_24 rfl
theorem x_89_25 {ls : List Value} {h : Hp} {v : Int32} : ex 89 25 ls [.int v] h = some (some (.int v), h) := x_iret hc_89 dX7_status_25 rfl
theorem x_90_0 {ls st : List Value} {h : Hp}  : ex 90 0 ls (st) h = gA (ldA ls 0) 90 1 ls st h := x_aload_n hc_90 dX8_fresh_0 rfl rfl
theorem x_90_1 {ls st : List Value} {h : Hp} {k : Nat} : ex 90 1 ls (.ref k :: st) h = if kd k = 8 then ex 90 4 ls (vl h k 11 :: st) h else none := x_getf hc_90 dX8_fresh_1 rfl fr_8_20
theorem x_90_4 {ls st : List Value} {h : Hp}  : ex 90 4 ls (st) h = gI (ldI ls 1) 90 5 ls st h := x_iload_n hc_90 dX8_fresh_4 rfl rfl
theorem x_90_5 {ls st : List Value} {h : Hp}  : ex 90 5 ls (st) h = ex 90 7 ls (.int (100) :: st) h := x_bipush hc_90 dX8_fresh_5 rfl (by decide)
theorem x_90_7 {ls st : List Value} {h : Hp} {k : Nat} {x u : Int32} : ex 90 7 ls (.int u :: .int x :: .ref k :: st) h = if kd k = 9 ∧ x.toNatClampNeg < ln k ∧ 0 ≤ x then ex 90 8 ls st (hu h k x.toNatClampNeg u) else none := x_iast hc_90 dX8_fresh_7 rfl
theorem x_90_8 {ls st : List Value} {h : Hp}  : ex 90 8 ls (st) h = ex 90 9 ls (.int (0) :: st) h := x_iconst hc_90 dX8_fresh_8 rfl (by decide)
theorem x_90_9 {ls st : List Value} {h : Hp} {x : Int32} : ex 90 9 ls (.int x :: st) h = ex 90 10 (ls.set 2 (.int x)) st h := x_istore_n hc_90 dX8_fresh_9 rfl rfl (by decide)
theorem x_90_10 {ls st : List Value} {h : Hp}  : ex 90 10 ls (st) h = gI (ldI ls 2) 90 11 ls st h := x_iload_n hc_90 dX8_fresh_10 rfl rfl
theorem x_90_11 {ls st : List Value} {h : Hp}  : ex 90 11 ls (st) h = ex 90 13 ls (.int (48) :: st) h := x_bipush hc_90 dX8_fresh_11 rfl (by decide)
theorem x_90_13 {ls st : List Value} {h : Hp} {x z : Int32} : ex 90 13 ls (.int z :: .int x :: st) h = if x < z then ex 90 16 ls st h else ex 90 36 ls st h := x_icmp_ge hc_90 dX8_fresh_13 rfl (by decide)
theorem x_90_16 {ls st : List Value} {h : Hp}  : ex 90 16 ls (st) h = gA (ldA ls 0) 90 17 ls st h := x_aload_n hc_90 dX8_fresh_16 rfl rfl
theorem x_90_17 {ls st : List Value} {h : Hp} {k : Nat} : ex 90 17 ls (.ref k :: st) h = if kd k = 8 then ex 90 20 ls (vl h k 15 :: st) h else none := x_getf hc_90 dX8_fresh_17 rfl fr_8_32
theorem x_90_20 {ls st : List Value} {h : Hp}  : ex 90 20 ls (st) h = ex 90 22 ls (.int (48) :: st) h := x_bipush hc_90 dX8_fresh_20 rfl (by decide)
theorem x_90_22 {ls st : List Value} {h : Hp}  : ex 90 22 ls (st) h = gI (ldI ls 1) 90 23 ls st h := x_iload_n hc_90 dX8_fresh_22 rfl rfl
theorem x_90_23 {ls st : List Value} {h : Hp} {a b : Int32} : ex 90 23 ls (.int b :: .int a :: st) h = ex 90 24 ls (.int (a * b) :: st) h := x_imul hc_90 dX8_fresh_23 rfl
theorem x_90_24 {ls st : List Value} {h : Hp}  : ex 90 24 ls (st) h = gI (ldI ls 2) 90 25 ls st h := x_iload_n hc_90 dX8_fresh_24 rfl rfl
theorem x_90_25 {ls st : List Value} {h : Hp} {a b : Int32} : ex 90 25 ls (.int b :: .int a :: st) h = ex 90 26 ls (.int (a + b) :: st) h := x_iadd hc_90 dX8_fresh_25 rfl
theorem x_90_26 {ls st : List Value} {h : Hp}  : ex 90 26 ls (st) h = ex 90 29 ls (.int (-9999) :: st) h := x_sipush hc_90 dX8_fresh_26 rfl (by decide)
theorem x_90_29 {ls st : List Value} {h : Hp} {k : Nat} {x u : Int32} : ex 90 29 ls (.int u :: .int x :: .ref k :: st) h = if kd k = 9 ∧ x.toNatClampNeg < ln k ∧ 0 ≤ x then ex 90 30 ls st (hu h k x.toNatClampNeg u) else none := x_iast hc_90 dX8_fresh_29 rfl
theorem x_90_30 {ls st : List Value} {h : Hp}  : ex 90 30 ls (st) h = gN (ldI ls 2) 90 33 ls 2 (1) st h := x_iinc hc_90 dX8_fresh_30 rfl (by decide) (by decide)
theorem x_90_33 {ls st : List Value} {h : Hp}  : ex 90 33 ls (st) h = ex 90 10 ls st h := x_goto hc_90 dX8_fresh_33 (by decide)
theorem x_90_36 {ls : List Value} {h : Hp} : ex 90 36 ls [] h = some (none, h) := x_vret hc_90 dX8_fresh_36 rfl
theorem x_91_0 {ls st : List Value} {h : Hp}  : ex 91 0 ls (st) h = gI (ldI ls 1) 91 1 ls st h := x_iload_n hc_91 dX8_station_0 rfl rfl
theorem x_91_1 {ls st : List Value} {h : Hp}  : ex 91 1 ls (st) h = ex 91 2 ls (.int (1) :: st) h := x_iconst hc_91 dX8_station_1 rfl (by decide)
theorem x_91_2 {ls st : List Value} {h : Hp} {x z : Int32} : ex 91 2 ls (.int z :: .int x :: st) h = if x < z then ex 91 11 ls st h else ex 91 5 ls st h := x_icmp_lt hc_91 dX8_station_2 rfl (by decide)
theorem x_91_5 {ls st : List Value} {h : Hp}  : ex 91 5 ls (st) h = gI (ldI ls 1) 91 6 ls st h := x_iload_n hc_91 dX8_station_5 rfl rfl
theorem x_91_6 {ls st : List Value} {h : Hp}  : ex 91 6 ls (st) h = ex 91 8 ls (.int (12) :: st) h := x_bipush hc_91 dX8_station_6 rfl (by decide)
theorem x_91_8 {ls st : List Value} {h : Hp} {x z : Int32} : ex 91 8 ls (.int z :: .int x :: st) h = if z < x then ex 91 11 ls st h else ex 91 18 ls st h := x_icmp_le hc_91 dX8_station_8 rfl (by decide)
theorem x_91_11 {ls st : List Value} {h : Hp}  : ex 91 11 ls (st) h = gA (ldA ls 0) 91 12 ls st h := x_aload_n hc_91 dX8_station_11 rfl rfl
theorem x_91_12 {ls st : List Value} {h : Hp}  : ex 91 12 ls (st) h = ex 91 14 ls (.int (-7) :: st) h := x_bipush hc_91 dX8_station_12 rfl (by decide)
theorem x_91_14 {ls st : List Value} {h : Hp} {k : Nat} {a0 : Int32} : ex 91 14 ls (.int a0 :: .ref k :: st) h = if kd k = 8 ∧ st.length ≤ 4 then gC (ex 92 0 [.ref k, .int a0] [] h) 91 17 ls st else none := x_callV (as := [.int a0]) hc_91 dX8_station_14 rfl mr_8_148 rfl rfl rfl (by decide) (by decide)
theorem x_91_17 {ls : List Value} {h : Hp} {v : Int32} : ex 91 17 ls [.int v] h = some (some (.int v), h) := x_iret hc_91 dX8_station_17 rfl
theorem x_91_18 {ls st : List Value} {h : Hp}  : ex 91 18 ls (st) h = gA (ldA ls 0) 91 19 ls st h := x_aload_n hc_91 dX8_station_18 rfl rfl
theorem x_91_19 {ls st : List Value} {h : Hp} {k : Nat} : ex 91 19 ls (.ref k :: st) h = if kd k = 8 then ex 91 22 ls (vl h k 1 :: st) h else none := x_getf hc_91 dX8_station_19 rfl fr_8_7
theorem x_91_22 {ls st : List Value} {h : Hp}  : ex 91 22 ls (st) h = ex 91 24 ls (.int (8) :: st) h := x_bipush hc_91 dX8_station_22 rfl (by decide)
theorem x_91_24 {ls st : List Value} {h : Hp} {x z : Int32} : ex 91 24 ls (.int z :: .int x :: st) h = if x = z then ex 91 27 ls st h else ex 91 34 ls st h := x_icmp_ne hc_91 dX8_station_24 rfl (by decide)
theorem x_91_27 {ls st : List Value} {h : Hp}  : ex 91 27 ls (st) h = gA (ldA ls 0) 91 28 ls st h := x_aload_n hc_91 dX8_station_27 rfl rfl
theorem x_91_28 {ls st : List Value} {h : Hp}  : ex 91 28 ls (st) h = ex 91 30 ls (.int (-8) :: st) h := x_bipush hc_91 dX8_station_28 rfl (by decide)
theorem x_91_30 {ls st : List Value} {h : Hp} {k : Nat} {a0 : Int32} : ex 91 30 ls (.int a0 :: .ref k :: st) h = if kd k = 8 ∧ st.length ≤ 4 then gC (ex 92 0 [.ref k, .int a0] [] h) 91 33 ls st else none := x_callV (as := [.int a0]) hc_91 dX8_station_30 rfl mr_8_148 rfl rfl rfl (by decide) (by decide)
theorem x_91_33 {ls : List Value} {h : Hp} {v : Int32} : ex 91 33 ls [.int v] h = some (some (.int v), h) := x_iret hc_91 dX8_station_33 rfl
theorem x_91_34 {ls st : List Value} {h : Hp}  : ex 91 34 ls (st) h = gA (ldA ls 0) 91 35 ls st h := x_aload_n hc_91 dX8_station_34 rfl rfl
theorem x_91_35 {ls st : List Value} {h : Hp} {k : Nat} : ex 91 35 ls (.ref k :: st) h = if kd k = 8 then ex 91 38 ls (vl h k 9 :: st) h else none := x_getf hc_91 dX8_station_35 rfl fr_8_13
theorem x_91_38 {ls st : List Value} {h : Hp}  : ex 91 38 ls (st) h = gA (ldA ls 0) 91 39 ls st h := x_aload_n hc_91 dX8_station_38 rfl rfl
theorem x_91_39 {ls st : List Value} {h : Hp} {k : Nat} : ex 91 39 ls (.ref k :: st) h = if kd k = 8 then ex 91 42 ls (vl h k 1 :: st) h else none := x_getf hc_91 dX8_station_39 rfl fr_8_7
theorem x_91_42 {ls st : List Value} {h : Hp}  : ex 91 42 ls (st) h = ex 91 43 ls (.int (1) :: st) h := x_iconst hc_91 dX8_station_42 rfl (by decide)
theorem x_91_43 {ls st : List Value} {h : Hp} {a b : Int32} : ex 91 43 ls (.int b :: .int a :: st) h = ex 91 44 ls (.int (a - b) :: st) h := x_isub hc_91 dX8_station_43 rfl
theorem x_91_44 {ls st : List Value} {h : Hp}  : ex 91 44 ls (st) h = gI (ldI ls 1) 91 45 ls st h := x_iload_n hc_91 dX8_station_44 rfl rfl
theorem x_91_45 {ls st : List Value} {h : Hp} {k : Nat} {x u : Int32} : ex 91 45 ls (.int u :: .int x :: .ref k :: st) h = if kd k = 9 ∧ x.toNatClampNeg < ln k ∧ 0 ≤ x then ex 91 46 ls st (hu h k x.toNatClampNeg u) else none := x_iast hc_91 dX8_station_45 rfl
theorem x_91_46 {ls st : List Value} {h : Hp}  : ex 91 46 ls (st) h = gA (ldA ls 0) 91 47 ls st h := x_aload_n hc_91 dX8_station_46 rfl rfl
theorem x_91_47i {ls st : List Value} {h : Hp} {u : Int32} : ex 91 47 ls (.int u :: st) h = ex 91 48 ls (.int u :: .int u :: st) h := x_dup_i hc_91 dX8_station_47 rfl
theorem x_91_47a {ls st : List Value} {h : Hp} {u : Nat} : ex 91 47 ls (.ref u :: st) h = ex 91 48 ls (.ref u :: .ref u :: st) h := x_dup_a hc_91 dX8_station_47 rfl
theorem x_91_48 {ls st : List Value} {h : Hp} {k : Nat} : ex 91 48 ls (.ref k :: st) h = if kd k = 8 then ex 91 51 ls (vl h k 1 :: st) h else none := x_getf hc_91 dX8_station_48 rfl fr_8_7
theorem x_91_51 {ls st : List Value} {h : Hp}  : ex 91 51 ls (st) h = ex 91 52 ls (.int (1) :: st) h := x_iconst hc_91 dX8_station_51 rfl (by decide)
theorem x_91_52 {ls st : List Value} {h : Hp} {a b : Int32} : ex 91 52 ls (.int b :: .int a :: st) h = ex 91 53 ls (.int (a + b) :: st) h := x_iadd hc_91 dX8_station_52 rfl
theorem x_91_53ii {ls st : List Value} {h : Hp} {u : Int32} {v : Int32} : ex 91 53 ls (.int u :: .int v :: st) h = ex 91 54 ls (.int u :: .int v :: .int u :: st) h := x_dup_x1_ii hc_91 dX8_station_53 rfl
theorem x_91_53ia {ls st : List Value} {h : Hp} {u : Int32} {v : Nat} : ex 91 53 ls (.int u :: .ref v :: st) h = ex 91 54 ls (.int u :: .ref v :: .int u :: st) h := x_dup_x1_ia hc_91 dX8_station_53 rfl
theorem x_91_53ai {ls st : List Value} {h : Hp} {u : Nat} {v : Int32} : ex 91 53 ls (.ref u :: .int v :: st) h = ex 91 54 ls (.ref u :: .int v :: .ref u :: st) h := x_dup_x1_ai hc_91 dX8_station_53 rfl
theorem x_91_53aa {ls st : List Value} {h : Hp} {u : Nat} {v : Nat} : ex 91 53 ls (.ref u :: .ref v :: st) h = ex 91 54 ls (.ref u :: .ref v :: .ref u :: st) h := x_dup_x1_aa hc_91 dX8_station_53 rfl
theorem x_91_54 {ls st : List Value} {h : Hp} {k : Nat} {x : Int32} : ex 91 54 ls (.int x :: .ref k :: st) h = if kd k = 8 then ex 91 57 ls st (hu h k 1 x) else none := x_putf hc_91 dX8_station_54 rfl fr_8_7 (by decide)
theorem x_91_57 {ls : List Value} {h : Hp} {v : Int32} : ex 91 57 ls [.int v] h = some (some (.int v), h) := x_iret hc_91 dX8_station_57 rfl
theorem x_92_0 {ls st : List Value} {h : Hp}  : ex 92 0 ls (st) h = gA (ldA ls 0) 92 1 ls st h := x_aload_n hc_92 dX8_refuse_0 rfl rfl
theorem x_92_1 {ls st : List Value} {h : Hp} {k : Nat} : ex 92 1 ls (.ref k :: st) h = if kd k = 8 then ex 92 4 ls (vl h k 50 :: st) h else none := x_getf hc_92 dX8_refuse_1 rfl fr_8_135
theorem x_92_4 {ls st : List Value} {h : Hp}  : ex 92 4 ls (st) h = gI (ldI ls 1) 92 5 ls st h := x_iload_n hc_92 dX8_refuse_4 rfl rfl
theorem x_92_5 {ls st : List Value} {h : Hp} {a : Int32} : ex 92 5 ls (.int a :: st) h = ex 92 6 ls (.int (-a) :: st) h := x_ineg hc_92 dX8_refuse_5 rfl
theorem x_92_6ii {ls st : List Value} {h : Hp} {u : Int32} {v : Int32} : ex 92 6 ls (.int u :: .int v :: st) h = ex 92 7 ls (.int u :: .int v :: .int u :: .int v :: st) h := x_dup2_ii hc_92 dX8_refuse_6 rfl
theorem x_92_6ia {ls st : List Value} {h : Hp} {u : Int32} {v : Nat} : ex 92 6 ls (.int u :: .ref v :: st) h = ex 92 7 ls (.int u :: .ref v :: .int u :: .ref v :: st) h := x_dup2_ia hc_92 dX8_refuse_6 rfl
theorem x_92_6ai {ls st : List Value} {h : Hp} {u : Nat} {v : Int32} : ex 92 6 ls (.ref u :: .int v :: st) h = ex 92 7 ls (.ref u :: .int v :: .ref u :: .int v :: st) h := x_dup2_ai hc_92 dX8_refuse_6 rfl
theorem x_92_6aa {ls st : List Value} {h : Hp} {u : Nat} {v : Nat} : ex 92 6 ls (.ref u :: .ref v :: st) h = ex 92 7 ls (.ref u :: .ref v :: .ref u :: .ref v :: st) h := x_dup2_aa hc_92 dX8_refuse_6 rfl
theorem x_92_7 {ls st : List Value} {h : Hp} {k : Nat} {x : Int32} : ex 92 7 ls (.int x :: .ref k :: st) h = if kd k = 9 ∧ x.toNatClampNeg < ln k ∧ 0 ≤ x then ex 92 8 ls (.int (h k x.toNatClampNeg) :: st) h else none := x_iald hc_92 dX8_refuse_7 rfl
theorem x_92_8 {ls st : List Value} {h : Hp}  : ex 92 8 ls (st) h = ex 92 9 ls (.int (1) :: st) h := x_iconst hc_92 dX8_refuse_8 rfl (by decide)
theorem x_92_9 {ls st : List Value} {h : Hp} {a b : Int32} : ex 92 9 ls (.int b :: .int a :: st) h = ex 92 10 ls (.int (a + b) :: st) h := x_iadd hc_92 dX8_refuse_9 rfl
theorem x_92_10 {ls st : List Value} {h : Hp} {k : Nat} {x u : Int32} : ex 92 10 ls (.int u :: .int x :: .ref k :: st) h = if kd k = 9 ∧ x.toNatClampNeg < ln k ∧ 0 ≤ x then ex 92 11 ls st (hu h k x.toNatClampNeg u) else none := x_iast hc_92 dX8_refuse_10 rfl
theorem x_92_11 {ls st : List Value} {h : Hp}  : ex 92 11 ls (st) h = gI (ldI ls 1) 92 12 ls st h := x_iload_n hc_92 dX8_refuse_11 rfl rfl
theorem x_92_12 {ls : List Value} {h : Hp} {v : Int32} : ex 92 12 ls [.int v] h = some (some (.int v), h) := x_iret hc_92 dX8_refuse_12 rfl
theorem x_93_0 {ls st : List Value} {h : Hp}  : ex 93 0 ls (st) h = gA (ldA ls 0) 93 1 ls st h := x_aload_n hc_93 dX8_stock_0 rfl rfl
theorem x_93_1 {ls st : List Value} {h : Hp}  : ex 93 1 ls (st) h = gI (ldI ls 1) 93 2 ls st h := x_iload_n hc_93 dX8_stock_1 rfl rfl
theorem x_93_2 {ls st : List Value} {h : Hp} {k : Nat} {a0 : Int32} : ex 93 2 ls (.int a0 :: .ref k :: st) h = if kd k = 8 ∧ st.length ≤ 4 then gC (ex 94 0 [.ref k, .int a0] [] h) 93 5 ls st else none := x_callV (as := [.int a0]) hc_93 dX8_stock_2 rfl mr_8_152 rfl rfl rfl (by decide) (by decide)
theorem x_93_5 {ls st : List Value} {h : Hp} {x : Int32} : ex 93 5 ls (.int x :: st) h = if x = 0 then ex 93 8 ls st h else ex 93 15 ls st h := x_if_ne hc_93 dX8_stock_5 rfl (by decide)
theorem x_93_8 {ls st : List Value} {h : Hp}  : ex 93 8 ls (st) h = gA (ldA ls 0) 93 9 ls st h := x_aload_n hc_93 dX8_stock_8 rfl rfl
theorem x_93_9 {ls st : List Value} {h : Hp}  : ex 93 9 ls (st) h = ex 93 11 ls (.int (-3) :: st) h := x_bipush hc_93 dX8_stock_9 rfl (by decide)
theorem x_93_11 {ls st : List Value} {h : Hp} {k : Nat} {a0 : Int32} : ex 93 11 ls (.int a0 :: .ref k :: st) h = if kd k = 8 ∧ st.length ≤ 4 then gC (ex 92 0 [.ref k, .int a0] [] h) 93 14 ls st else none := x_callV (as := [.int a0]) hc_93 dX8_stock_11 rfl mr_8_148 rfl rfl rfl (by decide) (by decide)
theorem x_93_14 {ls : List Value} {h : Hp} {v : Int32} : ex 93 14 ls [.int v] h = some (some (.int v), h) := x_iret hc_93 dX8_stock_14 rfl
theorem x_93_15 {ls st : List Value} {h : Hp}  : ex 93 15 ls (st) h = gI (ldI ls 2) 93 16 ls st h := x_iload_n hc_93 dX8_stock_15 rfl rfl
theorem x_93_16 {ls st : List Value} {h : Hp}  : ex 93 16 ls (st) h = ex 93 19 ls (.int (-10000) :: st) h := x_sipush hc_93 dX8_stock_16 rfl (by decide)
theorem x_93_19 {ls st : List Value} {h : Hp} {x z : Int32} : ex 93 19 ls (.int z :: .int x :: st) h = if x < z then ex 93 53 ls st h else ex 93 22 ls st h := x_icmp_lt hc_93 dX8_stock_19 rfl (by decide)
theorem x_93_22 {ls st : List Value} {h : Hp}  : ex 93 22 ls (st) h = gI (ldI ls 2) 93 23 ls st h := x_iload_n hc_93 dX8_stock_22 rfl rfl
theorem x_93_23 {ls st : List Value} {h : Hp}  : ex 93 23 ls (st) h = ex 93 26 ls (.int (10000) :: st) h := x_sipush hc_93 dX8_stock_23 rfl (by decide)
theorem x_93_26 {ls st : List Value} {h : Hp} {x z : Int32} : ex 93 26 ls (.int z :: .int x :: st) h = if z < x then ex 93 53 ls st h else ex 93 29 ls st h := x_icmp_gt hc_93 dX8_stock_26 rfl (by decide)
theorem x_93_29 {ls st : List Value} {h : Hp}  : ex 93 29 ls (st) h = gA (ldA ls 0) 93 30 ls st h := x_aload_n hc_93 dX8_stock_29 rfl rfl
theorem x_93_30 {ls st : List Value} {h : Hp} {k : Nat} : ex 93 30 ls (.ref k :: st) h = if kd k = 8 then ex 93 33 ls (vl h k 10 :: st) h else none := x_getf hc_93 dX8_stock_30 rfl fr_8_17
theorem x_93_33 {ls st : List Value} {h : Hp}  : ex 93 33 ls (st) h = gI (ldI ls 1) 93 34 ls st h := x_iload_n hc_93 dX8_stock_33 rfl rfl
theorem x_93_34 {ls st : List Value} {h : Hp} {k : Nat} {x : Int32} : ex 93 34 ls (.int x :: .ref k :: st) h = if kd k = 9 ∧ x.toNatClampNeg < ln k ∧ 0 ≤ x then ex 93 35 ls (.int (h k x.toNatClampNeg) :: st) h else none := x_iald hc_93 dX8_stock_34 rfl
theorem x_93_35 {ls st : List Value} {h : Hp}  : ex 93 35 ls (st) h = gI (ldI ls 2) 93 36 ls st h := x_iload_n hc_93 dX8_stock_35 rfl rfl
theorem x_93_36 {ls st : List Value} {h : Hp} {a b : Int32} : ex 93 36 ls (.int b :: .int a :: st) h = ex 93 37 ls (.int (a + b) :: st) h := x_iadd hc_93 dX8_stock_36 rfl
theorem x_93_37 {ls st : List Value} {h : Hp} {x : Int32} : ex 93 37 ls (.int x :: st) h = if x < 0 then ex 93 53 ls st h else ex 93 40 ls st h := x_if_lt hc_93 dX8_stock_37 rfl (by decide)
theorem x_93_40 {ls st : List Value} {h : Hp}  : ex 93 40 ls (st) h = gA (ldA ls 0) 93 41 ls st h := x_aload_n hc_93 dX8_stock_40 rfl rfl
theorem x_93_41 {ls st : List Value} {h : Hp} {k : Nat} : ex 93 41 ls (.ref k :: st) h = if kd k = 8 then ex 93 44 ls (vl h k 10 :: st) h else none := x_getf hc_93 dX8_stock_41 rfl fr_8_17
theorem x_93_44 {ls st : List Value} {h : Hp}  : ex 93 44 ls (st) h = gI (ldI ls 1) 93 45 ls st h := x_iload_n hc_93 dX8_stock_44 rfl rfl
theorem x_93_45 {ls st : List Value} {h : Hp} {k : Nat} {x : Int32} : ex 93 45 ls (.int x :: .ref k :: st) h = if kd k = 9 ∧ x.toNatClampNeg < ln k ∧ 0 ≤ x then ex 93 46 ls (.int (h k x.toNatClampNeg) :: st) h else none := x_iald hc_93 dX8_stock_45 rfl
theorem x_93_46 {ls st : List Value} {h : Hp}  : ex 93 46 ls (st) h = gI (ldI ls 2) 93 47 ls st h := x_iload_n hc_93 dX8_stock_46 rfl rfl
theorem x_93_47 {ls st : List Value} {h : Hp} {a b : Int32} : ex 93 47 ls (.int b :: .int a :: st) h = ex 93 48 ls (.int (a + b) :: st) h := x_iadd hc_93 dX8_stock_47 rfl
theorem x_93_48 {ls st : List Value} {h : Hp}  : ex 93 48 ls (st) h = ex 93 50 ls (.int 100000 :: st) h := x_ldc hc_93 dX8_stock_48 rfl (by decide +kernel)
theorem x_93_50 {ls st : List Value} {h : Hp} {x z : Int32} : ex 93 50 ls (.int z :: .int x :: st) h = if z < x then ex 93 53 ls st h else ex 93 60 ls st h := x_icmp_le hc_93 dX8_stock_50 rfl (by decide)
theorem x_93_53 {ls st : List Value} {h : Hp}  : ex 93 53 ls (st) h = gA (ldA ls 0) 93 54 ls st h := x_aload_n hc_93 dX8_stock_53 rfl rfl
theorem x_93_54 {ls st : List Value} {h : Hp}  : ex 93 54 ls (st) h = ex 93 56 ls (.int (-7) :: st) h := x_bipush hc_93 dX8_stock_54 rfl (by decide)
theorem x_93_56 {ls st : List Value} {h : Hp} {k : Nat} {a0 : Int32} : ex 93 56 ls (.int a0 :: .ref k :: st) h = if kd k = 8 ∧ st.length ≤ 4 then gC (ex 92 0 [.ref k, .int a0] [] h) 93 59 ls st else none := x_callV (as := [.int a0]) hc_93 dX8_stock_56 rfl mr_8_148 rfl rfl rfl (by decide) (by decide)
theorem x_93_59 {ls : List Value} {h : Hp} {v : Int32} : ex 93 59 ls [.int v] h = some (some (.int v), h) := x_iret hc_93 dX8_stock_59 rfl
theorem x_93_60 {ls st : List Value} {h : Hp}  : ex 93 60 ls (st) h = gA (ldA ls 0) 93 61 ls st h := x_aload_n hc_93 dX8_stock_60 rfl rfl
theorem x_93_61 {ls st : List Value} {h : Hp} {k : Nat} : ex 93 61 ls (.ref k :: st) h = if kd k = 8 then ex 93 64 ls (vl h k 10 :: st) h else none := x_getf hc_93 dX8_stock_61 rfl fr_8_17
theorem x_93_64 {ls st : List Value} {h : Hp}  : ex 93 64 ls (st) h = gI (ldI ls 1) 93 65 ls st h := x_iload_n hc_93 dX8_stock_64 rfl rfl
theorem x_93_65ii {ls st : List Value} {h : Hp} {u : Int32} {v : Int32} : ex 93 65 ls (.int u :: .int v :: st) h = ex 93 66 ls (.int u :: .int v :: .int u :: .int v :: st) h := x_dup2_ii hc_93 dX8_stock_65 rfl
theorem x_93_65ia {ls st : List Value} {h : Hp} {u : Int32} {v : Nat} : ex 93 65 ls (.int u :: .ref v :: st) h = ex 93 66 ls (.int u :: .ref v :: .int u :: .ref v :: st) h := x_dup2_ia hc_93 dX8_stock_65 rfl
theorem x_93_65ai {ls st : List Value} {h : Hp} {u : Nat} {v : Int32} : ex 93 65 ls (.ref u :: .int v :: st) h = ex 93 66 ls (.ref u :: .int v :: .ref u :: .int v :: st) h := x_dup2_ai hc_93 dX8_stock_65 rfl
theorem x_93_65aa {ls st : List Value} {h : Hp} {u : Nat} {v : Nat} : ex 93 65 ls (.ref u :: .ref v :: st) h = ex 93 66 ls (.ref u :: .ref v :: .ref u :: .ref v :: st) h := x_dup2_aa hc_93 dX8_stock_65 rfl
theorem x_93_66 {ls st : List Value} {h : Hp} {k : Nat} {x : Int32} : ex 93 66 ls (.int x :: .ref k :: st) h = if kd k = 9 ∧ x.toNatClampNeg < ln k ∧ 0 ≤ x then ex 93 67 ls (.int (h k x.toNatClampNeg) :: st) h else none := x_iald hc_93 dX8_stock_66 rfl
theorem x_93_67 {ls st : List Value} {h : Hp}  : ex 93 67 ls (st) h = gI (ldI ls 2) 93 68 ls st h := x_iload_n hc_93 dX8_stock_67 rfl rfl
theorem x_93_68 {ls st : List Value} {h : Hp} {a b : Int32} : ex 93 68 ls (.int b :: .int a :: st) h = ex 93 69 ls (.int (a + b) :: st) h := x_iadd hc_93 dX8_stock_68 rfl
theorem x_93_69 {ls st : List Value} {h : Hp} {k : Nat} {x u : Int32} : ex 93 69 ls (.int u :: .int x :: .ref k :: st) h = if kd k = 9 ∧ x.toNatClampNeg < ln k ∧ 0 ≤ x then ex 93 70 ls st (hu h k x.toNatClampNeg u) else none := x_iast hc_93 dX8_stock_69 rfl
theorem x_93_70 {ls st : List Value} {h : Hp}  : ex 93 70 ls (st) h = gA (ldA ls 0) 93 71 ls st h := x_aload_n hc_93 dX8_stock_70 rfl rfl
theorem x_93_71 {ls st : List Value} {h : Hp} {k : Nat} : ex 93 71 ls (.ref k :: st) h = if kd k = 8 then ex 93 74 ls (vl h k 10 :: st) h else none := x_getf hc_93 dX8_stock_71 rfl fr_8_17
theorem x_93_74 {ls st : List Value} {h : Hp}  : ex 93 74 ls (st) h = gI (ldI ls 1) 93 75 ls st h := x_iload_n hc_93 dX8_stock_74 rfl rfl
theorem x_93_75 {ls st : List Value} {h : Hp} {k : Nat} {x : Int32} : ex 93 75 ls (.int x :: .ref k :: st) h = if kd k = 9 ∧ x.toNatClampNeg < ln k ∧ 0 ≤ x then ex 93 76 ls (.int (h k x.toNatClampNeg) :: st) h else none := x_iald hc_93 dX8_stock_75 rfl
theorem x_93_76 {ls : List Value} {h : Hp} {v : Int32} : ex 93 76 ls [.int v] h = some (some (.int v), h) := x_iret hc_93 dX8_stock_76 rfl
theorem x_94_0 {ls st : List Value} {h : Hp}  : ex 94 0 ls (st) h = gI (ldI ls 1) 94 1 ls st h := x_iload_n hc_94 dX8_isStation_0 rfl rfl
theorem x_94_1 {ls st : List Value} {h : Hp} {x : Int32} : ex 94 1 ls (.int x :: st) h = if x < 0 then ex 94 16 ls st h else ex 94 4 ls st h := x_if_lt hc_94 dX8_isStation_1 rfl (by decide)
theorem x_94_4 {ls st : List Value} {h : Hp}  : ex 94 4 ls (st) h = gI (ldI ls 1) 94 5 ls st h := x_iload_n hc_94 dX8_isStation_4 rfl rfl
theorem x_94_5 {ls st : List Value} {h : Hp}  : ex 94 5 ls (st) h = gA (ldA ls 0) 94 6 ls st h := x_aload_n hc_94 dX8_isStation_5 rfl rfl
theorem x_94_6 {ls st : List Value} {h : Hp} {k : Nat} : ex 94 6 ls (.ref k :: st) h = if kd k = 8 then ex 94 9 ls (vl h k 1 :: st) h else none := x_getf hc_94 dX8_isStation_6 rfl fr_8_7
theorem x_94_9 {ls st : List Value} {h : Hp} {x z : Int32} : ex 94 9 ls (.int z :: .int x :: st) h = if x < z then ex 94 12 ls st h else ex 94 16 ls st h := x_icmp_ge hc_94 dX8_isStation_9 rfl (by decide)
theorem x_94_12 {ls st : List Value} {h : Hp}  : ex 94 12 ls (st) h = ex 94 13 ls (.int (1) :: st) h := x_iconst hc_94 dX8_isStation_12 rfl (by decide)
theorem x_94_13 {ls st : List Value} {h : Hp}  : ex 94 13 ls (st) h = ex 94 17 ls st h := x_goto hc_94 dX8_isStation_13 (by decide)
theorem x_94_16 {ls st : List Value} {h : Hp}  : ex 94 16 ls (st) h = ex 94 17 ls (.int (0) :: st) h := x_iconst hc_94 dX8_isStation_16 rfl (by decide)
theorem x_94_17 {ls : List Value} {h : Hp} {v : Int32} : ex 94 17 ls [.int v] h = if v = 0 ∨ v = 1 then some (some (.int v), h) else none := x_zret hc_94 dX8_isStation_17 rfl
theorem x_95_0 {ls st : List Value} {h : Hp}  : ex 95 0 ls (st) h = gA (ldA ls 0) 95 1 ls st h := x_aload_n hc_95 dX8_gang_0 rfl rfl
theorem x_95_1 {ls st : List Value} {h : Hp}  : ex 95 1 ls (st) h = gI (ldI ls 1) 95 2 ls st h := x_iload_n hc_95 dX8_gang_1 rfl rfl
theorem x_95_2 {ls st : List Value} {h : Hp} {k : Nat} {a0 : Int32} : ex 95 2 ls (.int a0 :: .ref k :: st) h = if kd k = 8 ∧ st.length ≤ 4 then gC (ex 94 0 [.ref k, .int a0] [] h) 95 5 ls st else none := x_callV (as := [.int a0]) hc_95 dX8_gang_2 rfl mr_8_152 rfl rfl rfl (by decide) (by decide)
theorem x_95_5 {ls st : List Value} {h : Hp} {x : Int32} : ex 95 5 ls (.int x :: st) h = if x = 0 then ex 95 8 ls st h else ex 95 15 ls st h := x_if_ne hc_95 dX8_gang_5 rfl (by decide)
theorem x_95_8 {ls st : List Value} {h : Hp}  : ex 95 8 ls (st) h = gA (ldA ls 0) 95 9 ls st h := x_aload_n hc_95 dX8_gang_8 rfl rfl
theorem x_95_9 {ls st : List Value} {h : Hp}  : ex 95 9 ls (st) h = ex 95 11 ls (.int (-3) :: st) h := x_bipush hc_95 dX8_gang_9 rfl (by decide)
theorem x_95_11 {ls st : List Value} {h : Hp} {k : Nat} {a0 : Int32} : ex 95 11 ls (.int a0 :: .ref k :: st) h = if kd k = 8 ∧ st.length ≤ 4 then gC (ex 92 0 [.ref k, .int a0] [] h) 95 14 ls st else none := x_callV (as := [.int a0]) hc_95 dX8_gang_11 rfl mr_8_148 rfl rfl rfl (by decide) (by decide)
theorem x_95_14 {ls : List Value} {h : Hp} {v : Int32} : ex 95 14 ls [.int v] h = some (some (.int v), h) := x_iret hc_95 dX8_gang_14 rfl
theorem x_95_15 {ls st : List Value} {h : Hp}  : ex 95 15 ls (st) h = gI (ldI ls 2) 95 16 ls st h := x_iload_n hc_95 dX8_gang_15 rfl rfl
theorem x_95_16 {ls st : List Value} {h : Hp} {x : Int32} : ex 95 16 ls (.int x :: st) h = if x < 0 then ex 95 25 ls st h else ex 95 19 ls st h := x_if_lt hc_95 dX8_gang_16 rfl (by decide)
theorem x_95_19 {ls st : List Value} {h : Hp}  : ex 95 19 ls (st) h = gI (ldI ls 2) 95 20 ls st h := x_iload_n hc_95 dX8_gang_19 rfl rfl
theorem x_95_20 {ls st : List Value} {h : Hp}  : ex 95 20 ls (st) h = ex 95 22 ls (.int (100) :: st) h := x_bipush hc_95 dX8_gang_20 rfl (by decide)
theorem x_95_22 {ls st : List Value} {h : Hp} {x z : Int32} : ex 95 22 ls (.int z :: .int x :: st) h = if z < x then ex 95 25 ls st h else ex 95 32 ls st h := x_icmp_le hc_95 dX8_gang_22 rfl (by decide)
theorem x_95_25 {ls st : List Value} {h : Hp}  : ex 95 25 ls (st) h = gA (ldA ls 0) 95 26 ls st h := x_aload_n hc_95 dX8_gang_25 rfl rfl
theorem x_95_26 {ls st : List Value} {h : Hp}  : ex 95 26 ls (st) h = ex 95 28 ls (.int (-7) :: st) h := x_bipush hc_95 dX8_gang_26 rfl (by decide)
theorem x_95_28 {ls st : List Value} {h : Hp} {k : Nat} {a0 : Int32} : ex 95 28 ls (.int a0 :: .ref k :: st) h = if kd k = 8 ∧ st.length ≤ 4 then gC (ex 92 0 [.ref k, .int a0] [] h) 95 31 ls st else none := x_callV (as := [.int a0]) hc_95 dX8_gang_28 rfl mr_8_148 rfl rfl rfl (by decide) (by decide)
theorem x_95_31 {ls : List Value} {h : Hp} {v : Int32} : ex 95 31 ls [.int v] h = some (some (.int v), h) := x_iret hc_95 dX8_gang_31 rfl
theorem x_95_32 {ls st : List Value} {h : Hp}  : ex 95 32 ls (st) h = gA (ldA ls 0) 95 33 ls st h := x_aload_n hc_95 dX8_gang_32 rfl rfl
theorem x_95_33 {ls st : List Value} {h : Hp} {k : Nat} : ex 95 33 ls (.ref k :: st) h = if kd k = 8 then ex 95 36 ls (vl h k 11 :: st) h else none := x_getf hc_95 dX8_gang_33 rfl fr_8_20
theorem x_95_36 {ls st : List Value} {h : Hp}  : ex 95 36 ls (st) h = gI (ldI ls 1) 95 37 ls st h := x_iload_n hc_95 dX8_gang_36 rfl rfl
theorem x_95_37 {ls st : List Value} {h : Hp} {k : Nat} {x : Int32} : ex 95 37 ls (.int x :: .ref k :: st) h = if kd k = 9 ∧ x.toNatClampNeg < ln k ∧ 0 ≤ x then ex 95 38 ls (.int (h k x.toNatClampNeg) :: st) h else none := x_iald hc_95 dX8_gang_37 rfl
theorem x_95_38 {ls st : List Value} {h : Hp} {x : Int32} : ex 95 38 ls (.int x :: st) h = ex 95 39 (ls.set 3 (.int x)) st h := x_istore_n hc_95 dX8_gang_38 rfl rfl (by decide)
theorem x_95_39 {ls st : List Value} {h : Hp}  : ex 95 39 ls (st) h = gA (ldA ls 0) 95 40 ls st h := x_aload_n hc_95 dX8_gang_39 rfl rfl
theorem x_95_40 {ls st : List Value} {h : Hp} {k : Nat} : ex 95 40 ls (.ref k :: st) h = if kd k = 8 then ex 95 43 ls (vl h k 11 :: st) h else none := x_getf hc_95 dX8_gang_40 rfl fr_8_20
theorem x_95_43 {ls st : List Value} {h : Hp}  : ex 95 43 ls (st) h = gI (ldI ls 1) 95 44 ls st h := x_iload_n hc_95 dX8_gang_43 rfl rfl
theorem x_95_44 {ls st : List Value} {h : Hp}  : ex 95 44 ls (st) h = gI (ldI ls 2) 95 45 ls st h := x_iload_n hc_95 dX8_gang_44 rfl rfl
theorem x_95_45 {ls st : List Value} {h : Hp} {k : Nat} {x u : Int32} : ex 95 45 ls (.int u :: .int x :: .ref k :: st) h = if kd k = 9 ∧ x.toNatClampNeg < ln k ∧ 0 ≤ x then ex 95 46 ls st (hu h k x.toNatClampNeg u) else none := x_iast hc_95 dX8_gang_45 rfl
theorem x_95_46 {ls st : List Value} {h : Hp}  : ex 95 46 ls (st) h = gI (ldI ls 3) 95 47 ls st h := x_iload_n hc_95 dX8_gang_46 rfl rfl
theorem x_95_47 {ls : List Value} {h : Hp} {v : Int32} : ex 95 47 ls [.int v] h = some (some (.int v), h) := x_iret hc_95 dX8_gang_47 rfl
theorem x_96_0 {ls st : List Value} {h : Hp}  : ex 96 0 ls (st) h = gA (ldA ls 0) 96 1 ls st h := x_aload_n hc_96 dX8_price_0 rfl rfl
theorem x_96_1 {ls st : List Value} {h : Hp}  : ex 96 1 ls (st) h = gI (ldI ls 1) 96 2 ls st h := x_iload_n hc_96 dX8_price_1 rfl rfl
theorem x_96_2 {ls st : List Value} {h : Hp} {k : Nat} {a0 : Int32} : ex 96 2 ls (.int a0 :: .ref k :: st) h = if kd k = 8 ∧ st.length ≤ 4 then gC (ex 94 0 [.ref k, .int a0] [] h) 96 5 ls st else none := x_callV (as := [.int a0]) hc_96 dX8_price_2 rfl mr_8_152 rfl rfl rfl (by decide) (by decide)
theorem x_96_5 {ls st : List Value} {h : Hp} {x : Int32} : ex 96 5 ls (.int x :: st) h = if x = 0 then ex 96 8 ls st h else ex 96 15 ls st h := x_if_ne hc_96 dX8_price_5 rfl (by decide)
theorem x_96_8 {ls st : List Value} {h : Hp}  : ex 96 8 ls (st) h = gA (ldA ls 0) 96 9 ls st h := x_aload_n hc_96 dX8_price_8 rfl rfl
theorem x_96_9 {ls st : List Value} {h : Hp}  : ex 96 9 ls (st) h = ex 96 11 ls (.int (-3) :: st) h := x_bipush hc_96 dX8_price_9 rfl (by decide)
theorem x_96_11 {ls st : List Value} {h : Hp} {k : Nat} {a0 : Int32} : ex 96 11 ls (.int a0 :: .ref k :: st) h = if kd k = 8 ∧ st.length ≤ 4 then gC (ex 92 0 [.ref k, .int a0] [] h) 96 14 ls st else none := x_callV (as := [.int a0]) hc_96 dX8_price_11 rfl mr_8_148 rfl rfl rfl (by decide) (by decide)
theorem x_96_14 {ls : List Value} {h : Hp} {v : Int32} : ex 96 14 ls [.int v] h = some (some (.int v), h) := x_iret hc_96 dX8_price_14 rfl
theorem x_96_15 {ls st : List Value} {h : Hp}  : ex 96 15 ls (st) h = gI (ldI ls 2) 96 16 ls st h := x_iload_n hc_96 dX8_price_15 rfl rfl
theorem x_96_16 {ls st : List Value} {h : Hp} {x : Int32} : ex 96 16 ls (.int x :: st) h = if x < 0 then ex 96 25 ls st h else ex 96 19 ls st h := x_if_lt hc_96 dX8_price_16 rfl (by decide)
theorem x_96_19 {ls st : List Value} {h : Hp}  : ex 96 19 ls (st) h = gI (ldI ls 2) 96 20 ls st h := x_iload_n hc_96 dX8_price_19 rfl rfl
theorem x_96_20 {ls st : List Value} {h : Hp}  : ex 96 20 ls (st) h = ex 96 22 ls (.int (99) :: st) h := x_bipush hc_96 dX8_price_20 rfl (by decide)
theorem x_96_22 {ls st : List Value} {h : Hp} {x z : Int32} : ex 96 22 ls (.int z :: .int x :: st) h = if z < x then ex 96 25 ls st h else ex 96 32 ls st h := x_icmp_le hc_96 dX8_price_22 rfl (by decide)
theorem x_96_25 {ls st : List Value} {h : Hp}  : ex 96 25 ls (st) h = gA (ldA ls 0) 96 26 ls st h := x_aload_n hc_96 dX8_price_25 rfl rfl
theorem x_96_26 {ls st : List Value} {h : Hp}  : ex 96 26 ls (st) h = ex 96 28 ls (.int (-7) :: st) h := x_bipush hc_96 dX8_price_26 rfl (by decide)
theorem x_96_28 {ls st : List Value} {h : Hp} {k : Nat} {a0 : Int32} : ex 96 28 ls (.int a0 :: .ref k :: st) h = if kd k = 8 ∧ st.length ≤ 4 then gC (ex 92 0 [.ref k, .int a0] [] h) 96 31 ls st else none := x_callV (as := [.int a0]) hc_96 dX8_price_28 rfl mr_8_148 rfl rfl rfl (by decide) (by decide)
theorem x_96_31 {ls : List Value} {h : Hp} {v : Int32} : ex 96 31 ls [.int v] h = some (some (.int v), h) := x_iret hc_96 dX8_price_31 rfl
theorem x_96_32 {ls st : List Value} {h : Hp}  : ex 96 32 ls (st) h = gA (ldA ls 0) 96 33 ls st h := x_aload_n hc_96 dX8_price_32 rfl rfl
theorem x_96_33 {ls st : List Value} {h : Hp} {k : Nat} : ex 96 33 ls (.ref k :: st) h = if kd k = 8 then ex 96 36 ls (vl h k 12 :: st) h else none := x_getf hc_96 dX8_price_33 rfl fr_8_23
theorem x_96_36 {ls st : List Value} {h : Hp}  : ex 96 36 ls (st) h = gI (ldI ls 1) 96 37 ls st h := x_iload_n hc_96 dX8_price_36 rfl rfl
theorem x_96_37 {ls st : List Value} {h : Hp} {k : Nat} {x : Int32} : ex 96 37 ls (.int x :: .ref k :: st) h = if kd k = 9 ∧ x.toNatClampNeg < ln k ∧ 0 ≤ x then ex 96 38 ls (.int (h k x.toNatClampNeg) :: st) h else none := x_iald hc_96 dX8_price_37 rfl
theorem x_96_38 {ls st : List Value} {h : Hp} {x : Int32} : ex 96 38 ls (.int x :: st) h = ex 96 39 (ls.set 3 (.int x)) st h := x_istore_n hc_96 dX8_price_38 rfl rfl (by decide)
theorem x_96_39 {ls st : List Value} {h : Hp}  : ex 96 39 ls (st) h = gA (ldA ls 0) 96 40 ls st h := x_aload_n hc_96 dX8_price_39 rfl rfl
theorem x_96_40 {ls st : List Value} {h : Hp} {k : Nat} : ex 96 40 ls (.ref k :: st) h = if kd k = 8 then ex 96 43 ls (vl h k 12 :: st) h else none := x_getf hc_96 dX8_price_40 rfl fr_8_23
theorem x_96_43 {ls st : List Value} {h : Hp}  : ex 96 43 ls (st) h = gI (ldI ls 1) 96 44 ls st h := x_iload_n hc_96 dX8_price_43 rfl rfl
theorem x_96_44 {ls st : List Value} {h : Hp}  : ex 96 44 ls (st) h = gI (ldI ls 2) 96 45 ls st h := x_iload_n hc_96 dX8_price_44 rfl rfl
theorem x_96_45 {ls st : List Value} {h : Hp} {k : Nat} {x u : Int32} : ex 96 45 ls (.int u :: .int x :: .ref k :: st) h = if kd k = 9 ∧ x.toNatClampNeg < ln k ∧ 0 ≤ x then ex 96 46 ls st (hu h k x.toNatClampNeg u) else none := x_iast hc_96 dX8_price_45 rfl
theorem x_96_46 {ls st : List Value} {h : Hp}  : ex 96 46 ls (st) h = gI (ldI ls 3) 96 47 ls st h := x_iload_n hc_96 dX8_price_46 rfl rfl
theorem x_96_47 {ls : List Value} {h : Hp} {v : Int32} : ex 96 47 ls [.int v] h = some (some (.int v), h) := x_iret hc_96 dX8_price_47 rfl
theorem x_97_0 {ls st : List Value} {h : Hp}  : ex 97 0 ls (st) h = gA (ldA ls 0) 97 1 ls st h := x_aload_n hc_97 dX8_weather_0 rfl rfl
theorem x_97_1 {ls st : List Value} {h : Hp}  : ex 97 1 ls (st) h = gI (ldI ls 1) 97 2 ls st h := x_iload_n hc_97 dX8_weather_1 rfl rfl
theorem x_97_2 {ls st : List Value} {h : Hp} {k : Nat} {a0 : Int32} : ex 97 2 ls (.int a0 :: .ref k :: st) h = if kd k = 8 ∧ st.length ≤ 4 then gC (ex 94 0 [.ref k, .int a0] [] h) 97 5 ls st else none := x_callV (as := [.int a0]) hc_97 dX8_weather_2 rfl mr_8_152 rfl rfl rfl (by decide) (by decide)
theorem x_97_5 {ls st : List Value} {h : Hp} {x : Int32} : ex 97 5 ls (.int x :: st) h = if x = 0 then ex 97 18 ls st h else ex 97 8 ls st h := x_if_eq hc_97 dX8_weather_5 rfl (by decide)
theorem x_97_8 {ls st : List Value} {h : Hp}  : ex 97 8 ls (st) h = gI (ldI ls 2) 97 9 ls st h := x_iload_n hc_97 dX8_weather_8 rfl rfl
theorem x_97_9 {ls st : List Value} {h : Hp} {x : Int32} : ex 97 9 ls (.int x :: st) h = if x < 0 then ex 97 18 ls st h else ex 97 12 ls st h := x_if_lt hc_97 dX8_weather_9 rfl (by decide)
theorem x_97_12 {ls st : List Value} {h : Hp}  : ex 97 12 ls (st) h = gI (ldI ls 2) 97 13 ls st h := x_iload_n hc_97 dX8_weather_12 rfl rfl
theorem x_97_13 {ls st : List Value} {h : Hp}  : ex 97 13 ls (st) h = ex 97 15 ls (.int (47) :: st) h := x_bipush hc_97 dX8_weather_13 rfl (by decide)
theorem x_97_15 {ls st : List Value} {h : Hp} {x z : Int32} : ex 97 15 ls (.int z :: .int x :: st) h = if z < x then ex 97 18 ls st h else ex 97 25 ls st h := x_icmp_le hc_97 dX8_weather_15 rfl (by decide)
theorem x_97_18 {ls st : List Value} {h : Hp}  : ex 97 18 ls (st) h = gA (ldA ls 0) 97 19 ls st h := x_aload_n hc_97 dX8_weather_18 rfl rfl
theorem x_97_19 {ls st : List Value} {h : Hp}  : ex 97 19 ls (st) h = ex 97 21 ls (.int (-3) :: st) h := x_bipush hc_97 dX8_weather_19 rfl (by decide)
theorem x_97_21 {ls st : List Value} {h : Hp} {k : Nat} {a0 : Int32} : ex 97 21 ls (.int a0 :: .ref k :: st) h = if kd k = 8 ∧ st.length ≤ 4 then gC (ex 98 0 [.ref k, .int a0] [] h) 97 24 ls st else none := x_callV (as := [.int a0]) hc_97 dX8_weather_21 rfl mr_8_157 rfl rfl rfl (by decide) (by decide)
theorem x_97_24 {ls : List Value} {h : Hp} {v : Int32} : ex 97 24 ls [.int v] h = some (some (.int v), h) := x_iret hc_97 dX8_weather_24 rfl
theorem x_97_25 {ls st : List Value} {h : Hp}  : ex 97 25 ls (st) h = gI (ldI ls 3) 97 26 ls st h := x_iload_n hc_97 dX8_weather_25 rfl rfl
theorem x_97_26 {ls st : List Value} {h : Hp}  : ex 97 26 ls (st) h = ex 97 29 ls (.int (-9999) :: st) h := x_sipush hc_97 dX8_weather_26 rfl (by decide)
theorem x_97_29 {ls st : List Value} {h : Hp} {x z : Int32} : ex 97 29 ls (.int z :: .int x :: st) h = if x = z then ex 97 53 ls st h else ex 97 32 ls st h := x_icmp_eq hc_97 dX8_weather_29 rfl (by decide)
theorem x_97_32 {ls st : List Value} {h : Hp}  : ex 97 32 ls (st) h = gI (ldI ls 3) 97 33 ls st h := x_iload_n hc_97 dX8_weather_32 rfl rfl
theorem x_97_33 {ls st : List Value} {h : Hp}  : ex 97 33 ls (st) h = ex 97 36 ls (.int (-400) :: st) h := x_sipush hc_97 dX8_weather_33 rfl (by decide)
theorem x_97_36 {ls st : List Value} {h : Hp} {x z : Int32} : ex 97 36 ls (.int z :: .int x :: st) h = if x < z then ex 97 46 ls st h else ex 97 39 ls st h := x_icmp_lt hc_97 dX8_weather_36 rfl (by decide)
theorem x_97_39 {ls st : List Value} {h : Hp}  : ex 97 39 ls (st) h = gI (ldI ls 3) 97 40 ls st h := x_iload_n hc_97 dX8_weather_39 rfl rfl
theorem x_97_40 {ls st : List Value} {h : Hp}  : ex 97 40 ls (st) h = ex 97 43 ls (.int (500) :: st) h := x_sipush hc_97 dX8_weather_40 rfl (by decide)
theorem x_97_43 {ls st : List Value} {h : Hp} {x z : Int32} : ex 97 43 ls (.int z :: .int x :: st) h = if z < x then ex 97 46 ls st h else ex 97 53 ls st h := x_icmp_le hc_97 dX8_weather_43 rfl (by decide)
theorem x_97_46 {ls st : List Value} {h : Hp}  : ex 97 46 ls (st) h = gA (ldA ls 0) 97 47 ls st h := x_aload_n hc_97 dX8_weather_46 rfl rfl
theorem x_97_47 {ls st : List Value} {h : Hp}  : ex 97 47 ls (st) h = ex 97 49 ls (.int (-7) :: st) h := x_bipush hc_97 dX8_weather_47 rfl (by decide)
theorem x_97_49 {ls st : List Value} {h : Hp} {k : Nat} {a0 : Int32} : ex 97 49 ls (.int a0 :: .ref k :: st) h = if kd k = 8 ∧ st.length ≤ 4 then gC (ex 98 0 [.ref k, .int a0] [] h) 97 52 ls st else none := x_callV (as := [.int a0]) hc_97 dX8_weather_49 rfl mr_8_157 rfl rfl rfl (by decide) (by decide)
theorem x_97_52 {ls : List Value} {h : Hp} {v : Int32} : ex 97 52 ls [.int v] h = some (some (.int v), h) := x_iret hc_97 dX8_weather_52 rfl
theorem x_97_53 {ls st : List Value} {h : Hp}  : ex 97 53 ls (st) h = gA (ldA ls 0) 97 54 ls st h := x_aload_n hc_97 dX8_weather_53 rfl rfl
theorem x_97_54 {ls st : List Value} {h : Hp} {k : Nat} : ex 97 54 ls (.ref k :: st) h = if kd k = 8 then ex 97 57 ls (vl h k 15 :: st) h else none := x_getf hc_97 dX8_weather_54 rfl fr_8_32
theorem x_97_57 {ls st : List Value} {h : Hp}  : ex 97 57 ls (st) h = ex 97 59 ls (.int (48) :: st) h := x_bipush hc_97 dX8_weather_57 rfl (by decide)
theorem x_97_59 {ls st : List Value} {h : Hp}  : ex 97 59 ls (st) h = gI (ldI ls 1) 97 60 ls st h := x_iload_n hc_97 dX8_weather_59 rfl rfl
theorem x_97_60 {ls st : List Value} {h : Hp} {a b : Int32} : ex 97 60 ls (.int b :: .int a :: st) h = ex 97 61 ls (.int (a * b) :: st) h := x_imul hc_97 dX8_weather_60 rfl
theorem x_97_61 {ls st : List Value} {h : Hp}  : ex 97 61 ls (st) h = gI (ldI ls 2) 97 62 ls st h := x_iload_n hc_97 dX8_weather_61 rfl rfl
theorem x_97_62 {ls st : List Value} {h : Hp} {a b : Int32} : ex 97 62 ls (.int b :: .int a :: st) h = ex 97 63 ls (.int (a + b) :: st) h := x_iadd hc_97 dX8_weather_62 rfl
theorem x_97_63 {ls st : List Value} {h : Hp} {k : Nat} {x : Int32} : ex 97 63 ls (.int x :: .ref k :: st) h = if kd k = 9 ∧ x.toNatClampNeg < ln k ∧ 0 ≤ x then ex 97 64 ls (.int (h k x.toNatClampNeg) :: st) h else none := x_iald hc_97 dX8_weather_63 rfl
theorem x_97_64 {ls st : List Value} {h : Hp} {x : Int32} : ex 97 64 ls (.int x :: st) h = ex 97 66 (ls.set 4 (.int x)) st h := x_istore hc_97 dX8_weather_64 rfl (by decide)
theorem x_97_66 {ls st : List Value} {h : Hp}  : ex 97 66 ls (st) h = gA (ldA ls 0) 97 67 ls st h := x_aload_n hc_97 dX8_weather_66 rfl rfl
theorem x_97_67 {ls st : List Value} {h : Hp} {k : Nat} : ex 97 67 ls (.ref k :: st) h = if kd k = 8 then ex 97 70 ls (vl h k 15 :: st) h else none := x_getf hc_97 dX8_weather_67 rfl fr_8_32
theorem x_97_70 {ls st : List Value} {h : Hp}  : ex 97 70 ls (st) h = ex 97 72 ls (.int (48) :: st) h := x_bipush hc_97 dX8_weather_70 rfl (by decide)
theorem x_97_72 {ls st : List Value} {h : Hp}  : ex 97 72 ls (st) h = gI (ldI ls 1) 97 73 ls st h := x_iload_n hc_97 dX8_weather_72 rfl rfl
theorem x_97_73 {ls st : List Value} {h : Hp} {a b : Int32} : ex 97 73 ls (.int b :: .int a :: st) h = ex 97 74 ls (.int (a * b) :: st) h := x_imul hc_97 dX8_weather_73 rfl
theorem x_97_74 {ls st : List Value} {h : Hp}  : ex 97 74 ls (st) h = gI (ldI ls 2) 97 75 ls st h := x_iload_n hc_97 dX8_weather_74 rfl rfl
theorem x_97_75 {ls st : List Value} {h : Hp} {a b : Int32} : ex 97 75 ls (.int b :: .int a :: st) h = ex 97 76 ls (.int (a + b) :: st) h := x_iadd hc_97 dX8_weather_75 rfl
theorem x_97_76 {ls st : List Value} {h : Hp}  : ex 97 76 ls (st) h = gI (ldI ls 3) 97 77 ls st h := x_iload_n hc_97 dX8_weather_76 rfl rfl
theorem x_97_77 {ls st : List Value} {h : Hp} {k : Nat} {x u : Int32} : ex 97 77 ls (.int u :: .int x :: .ref k :: st) h = if kd k = 9 ∧ x.toNatClampNeg < ln k ∧ 0 ≤ x then ex 97 78 ls st (hu h k x.toNatClampNeg u) else none := x_iast hc_97 dX8_weather_77 rfl
theorem x_97_78 {ls st : List Value} {h : Hp}  : ex 97 78 ls (st) h = gI (ldI ls 4) 97 80 ls st h := x_iload hc_97 dX8_weather_78 rfl
theorem x_97_80 {ls : List Value} {h : Hp} {v : Int32} : ex 97 80 ls [.int v] h = some (some (.int v), h) := x_iret hc_97 dX8_weather_80 rfl
