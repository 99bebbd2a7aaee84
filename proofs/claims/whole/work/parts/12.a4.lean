theorem x_127_0 {ls st : List Value} {h : Hp}  : ex 127 0 ls (st) h = gA (ldA ls 0) 127 1 ls st h := x_aload_n hc_127 dX8_obeys_0 rfl rfl
theorem x_127_1 {ls st : List Value} {h : Hp} {k : Nat} : ex 127 1 ls (.ref k :: st) h = if kd k = 8 then ex 127 4 ls (vl h k 20 :: st) h else none := x_getf hc_127 dX8_obeys_1 rfl fr_8_47
theorem x_127_4 {ls st : List Value} {h : Hp}  : ex 127 4 ls (st) h = gI (ldI ls 1) 127 5 ls st h := x_iload_n hc_127 dX8_obeys_4 rfl rfl
theorem x_127_5 {ls st : List Value} {h : Hp} {k : Nat} {x : Int32} : ex 127 5 ls (.int x :: .ref k :: st) h = if kd k = 9 ∧ x.toNatClampNeg < ln k ∧ 0 ≤ x then ex 127 6 ls (.int (h k x.toNatClampNeg) :: st) h else none := x_iald hc_127 dX8_obeys_5 rfl
theorem x_127_6 {ls st : List Value} {h : Hp} {x : Int32} : ex 127 6 ls (.int x :: st) h = ex 127 8 (ls.set 4 (.int x)) st h := x_istore hc_127 dX8_obeys_6 rfl (by decide)
theorem x_127_8 {ls st : List Value} {h : Hp}  : ex 127 8 ls (st) h = gA (ldA ls 0) 127 9 ls st h := x_aload_n hc_127 dX8_obeys_8 rfl rfl
theorem x_127_9 {ls st : List Value} {h : Hp} {k : Nat} : ex 127 9 ls (.ref k :: st) h = if kd k = 8 then ex 127 12 ls (vl h k 3 :: st) h else none := x_getf hc_127 dX8_obeys_9 rfl fr_8_233
theorem x_127_12 {ls st : List Value} {h : Hp}  : ex 127 12 ls (st) h = ex 127 13 ls (.int (1) :: st) h := x_iconst hc_127 dX8_obeys_12 rfl (by decide)
theorem x_127_13 {ls st : List Value} {h : Hp} {a b : Int32} : ex 127 13 ls (.int b :: .int a :: st) h = ex 127 14 ls (.int (a - b) :: st) h := x_isub hc_127 dX8_obeys_13 rfl
theorem x_127_14 {ls st : List Value} {h : Hp} {x : Int32} : ex 127 14 ls (.int x :: st) h = ex 127 16 (ls.set 5 (.int x)) st h := x_istore hc_127 dX8_obeys_14 rfl (by decide)
theorem x_127_16 {ls st : List Value} {h : Hp}  : ex 127 16 ls (st) h = gI (ldI ls 5) 127 18 ls st h := x_iload hc_127 dX8_obeys_16 rfl
theorem x_127_18 {ls st : List Value} {h : Hp} {x : Int32} : ex 127 18 ls (.int x :: st) h = if x < 0 then ex 127 64 ls st h else ex 127 21 ls st h := x_if_lt hc_127 dX8_obeys_18 rfl (by decide)
theorem x_127_21 {ls st : List Value} {h : Hp}  : ex 127 21 ls (st) h = gA (ldA ls 0) 127 22 ls st h := x_aload_n hc_127 dX8_obeys_21 rfl rfl
theorem x_127_22 {ls st : List Value} {h : Hp}  : ex 127 22 ls (st) h = gI (ldI ls 5) 127 24 ls st h := x_iload hc_127 dX8_obeys_22 rfl
theorem x_127_24 {ls st : List Value} {h : Hp}  : ex 127 24 ls (st) h = ex 127 25 ls (.int (1) :: st) h := x_iconst hc_127 dX8_obeys_24 rfl (by decide)
theorem x_127_25 {ls st : List Value} {h : Hp}  : ex 127 25 ls (st) h = gI (ldI ls 1) 127 26 ls st h := x_iload_n hc_127 dX8_obeys_25 rfl rfl
theorem x_127_26 {ls st : List Value} {h : Hp}  : ex 127 26 ls (st) h = gI (ldI ls 2) 127 27 ls st h := x_iload_n hc_127 dX8_obeys_26 rfl rfl
theorem x_127_27 {ls st : List Value} {h : Hp}  : ex 127 27 ls (st) h = gI (ldI ls 3) 127 28 ls st h := x_iload_n hc_127 dX8_obeys_27 rfl rfl
theorem x_127_28 {ls st : List Value} {h : Hp} {k : Nat} {a0 : Int32} {a1 : Int32} {a2 : Int32} {a3 : Int32} {a4 : Int32} : ex 127 28 ls (.int a4 :: .int a3 :: .int a2 :: .int a1 :: .int a0 :: .ref k :: st) h = if kd k = 8 ∧ st.length ≤ 4 then gC (ex 128 0 [.ref k, .int a0, .int a1, .int a2, .int a3, .int a4, .null, .null, .null, .null] [] h) 127 31 ls st else none := x_callV (as := [.int a0, .int a1, .int a2, .int a3, .int a4]) hc_127 dX8_obeys_28 rfl mr_8_242 rfl rfl rfl (by decide) (by decide)
theorem x_127_31 {ls st : List Value} {h : Hp} {x : Int32} : ex 127 31 ls (.int x :: st) h = if x = 0 then ex 127 58 ls st h else ex 127 34 ls st h := x_if_eq hc_127 dX8_obeys_31 rfl (by decide)
theorem x_127_34 {ls st : List Value} {h : Hp}  : ex 127 34 ls (st) h = gA (ldA ls 0) 127 35 ls st h := x_aload_n hc_127 dX8_obeys_34 rfl rfl
theorem x_127_35 {ls st : List Value} {h : Hp} {k : Nat} : ex 127 35 ls (.ref k :: st) h = if kd k = 8 then ex 127 38 ls (vl h k 19 :: st) h else none := x_getf hc_127 dX8_obeys_35 rfl fr_8_44
theorem x_127_38 {ls st : List Value} {h : Hp}  : ex 127 38 ls (st) h = gI (ldI ls 1) 127 39 ls st h := x_iload_n hc_127 dX8_obeys_38 rfl rfl
theorem x_127_39 {ls st : List Value} {h : Hp}  : ex 127 39 ls (st) h = gA (ldA ls 0) 127 40 ls st h := x_aload_n hc_127 dX8_obeys_39 rfl rfl
theorem x_127_40 {ls st : List Value} {h : Hp} {k : Nat} : ex 127 40 ls (.ref k :: st) h = if kd k = 8 then ex 127 43 ls (vl h k 40 :: st) h else none := x_getf hc_127 dX8_obeys_40 rfl fr_8_105
theorem x_127_43 {ls st : List Value} {h : Hp}  : ex 127 43 ls (st) h = gI (ldI ls 5) 127 45 ls st h := x_iload hc_127 dX8_obeys_43 rfl
theorem x_127_45 {ls st : List Value} {h : Hp} {k : Nat} {x : Int32} : ex 127 45 ls (.int x :: .ref k :: st) h = if kd k = 9 ∧ x.toNatClampNeg < ln k ∧ 0 ≤ x then ex 127 46 ls (.int (h k x.toNatClampNeg) :: st) h else none := x_iald hc_127 dX8_obeys_45 rfl
theorem x_127_46 {ls st : List Value} {h : Hp} {x : Int32} : ex 127 46 ls (.int x :: st) h = if x = 0 then ex 127 53 ls st h else ex 127 49 ls st h := x_if_eq hc_127 dX8_obeys_46 rfl (by decide)
theorem x_127_49 {ls st : List Value} {h : Hp}  : ex 127 49 ls (st) h = ex 127 50 ls (.int (1) :: st) h := x_iconst hc_127 dX8_obeys_49 rfl (by decide)
theorem x_127_50 {ls st : List Value} {h : Hp}  : ex 127 50 ls (st) h = ex 127 54 ls st h := x_goto hc_127 dX8_obeys_50 (by decide)
theorem x_127_53 {ls st : List Value} {h : Hp}  : ex 127 53 ls (st) h = ex 127 54 ls (.int (0) :: st) h := x_iconst hc_127 dX8_obeys_53 rfl (by decide)
theorem x_127_54 {ls st : List Value} {h : Hp} {k : Nat} {x u : Int32} : ex 127 54 ls (.int u :: .int x :: .ref k :: st) h = if kd k = 9 ∧ x.toNatClampNeg < ln k ∧ 0 ≤ x then ex 127 55 ls st (hu h k x.toNatClampNeg u) else none := x_iast hc_127 dX8_obeys_54 rfl
theorem x_127_55 {ls st : List Value} {h : Hp}  : ex 127 55 ls (st) h = ex 127 64 ls st h := x_goto hc_127 dX8_obeys_55 (by decide)
theorem x_127_58 {ls st : List Value} {h : Hp}  : ex 127 58 ls (st) h = gN (ldI ls 5) 127 61 ls 5 (-1) st h := x_iinc hc_127 dX8_obeys_58 rfl (by decide) (by decide)
theorem x_127_61 {ls st : List Value} {h : Hp}  : ex 127 61 ls (st) h = ex 127 16 ls st h := x_goto hc_127 dX8_obeys_61 (by decide)
theorem x_127_64 {ls st : List Value} {h : Hp}  : ex 127 64 ls (st) h = gA (ldA ls 0) 127 65 ls st h := x_aload_n hc_127 dX8_obeys_64 rfl rfl
theorem x_127_65 {ls st : List Value} {h : Hp} {k : Nat} : ex 127 65 ls (.ref k :: st) h = if kd k = 8 then ex 127 68 ls (vl h k 26 :: st) h else none := x_getf hc_127 dX8_obeys_65 rfl fr_8_65
theorem x_127_68 {ls st : List Value} {h : Hp}  : ex 127 68 ls (st) h = gI (ldI ls 1) 127 69 ls st h := x_iload_n hc_127 dX8_obeys_68 rfl rfl
theorem x_127_69 {ls st : List Value} {h : Hp}  : ex 127 69 ls (st) h = ex 127 70 ls (.int (0) :: st) h := x_iconst hc_127 dX8_obeys_69 rfl (by decide)
theorem x_127_70 {ls st : List Value} {h : Hp} {k : Nat} {x u : Int32} : ex 127 70 ls (.int u :: .int x :: .ref k :: st) h = if kd k = 9 ∧ x.toNatClampNeg < ln k ∧ 0 ≤ x then ex 127 71 ls st (hu h k x.toNatClampNeg u) else none := x_iast hc_127 dX8_obeys_70 rfl
theorem x_127_71 {ls st : List Value} {h : Hp}  : ex 127 71 ls (st) h = gA (ldA ls 0) 127 72 ls st h := x_aload_n hc_127 dX8_obeys_71 rfl rfl
theorem x_127_72 {ls st : List Value} {h : Hp} {k : Nat} : ex 127 72 ls (.ref k :: st) h = if kd k = 8 then ex 127 75 ls (vl h k 3 :: st) h else none := x_getf hc_127 dX8_obeys_72 rfl fr_8_233
theorem x_127_75 {ls st : List Value} {h : Hp}  : ex 127 75 ls (st) h = ex 127 76 ls (.int (1) :: st) h := x_iconst hc_127 dX8_obeys_75 rfl (by decide)
theorem x_127_76 {ls st : List Value} {h : Hp} {a b : Int32} : ex 127 76 ls (.int b :: .int a :: st) h = ex 127 77 ls (.int (a - b) :: st) h := x_isub hc_127 dX8_obeys_76 rfl
theorem x_127_77 {ls st : List Value} {h : Hp} {x : Int32} : ex 127 77 ls (.int x :: st) h = ex 127 79 (ls.set 5 (.int x)) st h := x_istore hc_127 dX8_obeys_77 rfl (by decide)
theorem x_127_79 {ls st : List Value} {h : Hp}  : ex 127 79 ls (st) h = gI (ldI ls 5) 127 81 ls st h := x_iload hc_127 dX8_obeys_79 rfl
theorem x_127_81 {ls st : List Value} {h : Hp} {x : Int32} : ex 127 81 ls (.int x :: st) h = if x < 0 then ex 127 306 ls st h else ex 127 84 ls st h := x_if_lt hc_127 dX8_obeys_81 rfl (by decide)
theorem x_127_84 {ls st : List Value} {h : Hp}  : ex 127 84 ls (st) h = gA (ldA ls 0) 127 85 ls st h := x_aload_n hc_127 dX8_obeys_84 rfl rfl
theorem x_127_85 {ls st : List Value} {h : Hp}  : ex 127 85 ls (st) h = gI (ldI ls 5) 127 87 ls st h := x_iload hc_127 dX8_obeys_85 rfl
theorem x_127_87 {ls st : List Value} {h : Hp}  : ex 127 87 ls (st) h = ex 127 88 ls (.int (0) :: st) h := x_iconst hc_127 dX8_obeys_87 rfl (by decide)
theorem x_127_88 {ls st : List Value} {h : Hp}  : ex 127 88 ls (st) h = gI (ldI ls 1) 127 89 ls st h := x_iload_n hc_127 dX8_obeys_88 rfl rfl
theorem x_127_89 {ls st : List Value} {h : Hp}  : ex 127 89 ls (st) h = gI (ldI ls 2) 127 90 ls st h := x_iload_n hc_127 dX8_obeys_89 rfl rfl
theorem x_127_90 {ls st : List Value} {h : Hp}  : ex 127 90 ls (st) h = gI (ldI ls 3) 127 91 ls st h := x_iload_n hc_127 dX8_obeys_90 rfl rfl
theorem x_127_91 {ls st : List Value} {h : Hp} {k : Nat} {a0 : Int32} {a1 : Int32} {a2 : Int32} {a3 : Int32} {a4 : Int32} : ex 127 91 ls (.int a4 :: .int a3 :: .int a2 :: .int a1 :: .int a0 :: .ref k :: st) h = if kd k = 8 ∧ st.length ≤ 4 then gC (ex 128 0 [.ref k, .int a0, .int a1, .int a2, .int a3, .int a4, .null, .null, .null, .null] [] h) 127 94 ls st else none := x_callV (as := [.int a0, .int a1, .int a2, .int a3, .int a4]) hc_127 dX8_obeys_91 rfl mr_8_242 rfl rfl rfl (by decide) (by decide)
theorem x_127_94 {ls st : List Value} {h : Hp} {x : Int32} : ex 127 94 ls (.int x :: st) h = if x = 0 then ex 127 97 ls st h else ex 127 100 ls st h := x_if_ne hc_127 dX8_obeys_94 rfl (by decide)
theorem x_127_97 {ls st : List Value} {h : Hp}  : ex 127 97 ls (st) h = ex 127 300 ls st h := x_goto hc_127 dX8_obeys_97 (by decide)
theorem x_127_100 {ls st : List Value} {h : Hp}  : ex 127 100 ls (st) h = gA (ldA ls 0) 127 101 ls st h := x_aload_n hc_127 dX8_obeys_100 rfl rfl
theorem x_127_101 {ls st : List Value} {h : Hp} {k : Nat} : ex 127 101 ls (.ref k :: st) h = if kd k = 8 then ex 127 104 ls (vl h k 40 :: st) h else none := x_getf hc_127 dX8_obeys_101 rfl fr_8_105
theorem x_127_104 {ls st : List Value} {h : Hp}  : ex 127 104 ls (st) h = gI (ldI ls 5) 127 106 ls st h := x_iload hc_127 dX8_obeys_104 rfl
theorem x_127_106 {ls st : List Value} {h : Hp} {k : Nat} {x : Int32} : ex 127 106 ls (.int x :: .ref k :: st) h = if kd k = 9 ∧ x.toNatClampNeg < ln k ∧ 0 ≤ x then ex 127 107 ls (.int (h k x.toNatClampNeg) :: st) h else none := x_iald hc_127 dX8_obeys_106 rfl
theorem x_127_107 {ls st : List Value} {h : Hp}  : ex 127 107 ls (st) h = ex 127 109 ls (.int (100) :: st) h := x_bipush hc_127 dX8_obeys_107 rfl (by decide)
theorem x_127_109 {ls st : List Value} {h : Hp} {x z : Int32} : ex 127 109 ls (.int z :: .int x :: st) h = if z < x then ex 127 112 ls st h else ex 127 117 ls st h := x_icmp_le hc_127 dX8_obeys_109 rfl (by decide)
theorem x_127_112 {ls st : List Value} {h : Hp}  : ex 127 112 ls (st) h = ex 127 114 ls (.int (100) :: st) h := x_bipush hc_127 dX8_obeys_112 rfl (by decide)
theorem x_127_114 {ls st : List Value} {h : Hp}  : ex 127 114 ls (st) h = ex 127 124 ls st h := x_goto hc_127 dX8_obeys_114 (by decide)
theorem x_127_117 {ls st : List Value} {h : Hp}  : ex 127 117 ls (st) h = gA (ldA ls 0) 127 118 ls st h := x_aload_n hc_127 dX8_obeys_117 rfl rfl
theorem x_127_118 {ls st : List Value} {h : Hp} {k : Nat} : ex 127 118 ls (.ref k :: st) h = if kd k = 8 then ex 127 121 ls (vl h k 40 :: st) h else none := x_getf hc_127 dX8_obeys_118 rfl fr_8_105
theorem x_127_121 {ls st : List Value} {h : Hp}  : ex 127 121 ls (st) h = gI (ldI ls 5) 127 123 ls st h := x_iload hc_127 dX8_obeys_121 rfl
theorem x_127_123 {ls st : List Value} {h : Hp} {k : Nat} {x : Int32} : ex 127 123 ls (.int x :: .ref k :: st) h = if kd k = 9 ∧ x.toNatClampNeg < ln k ∧ 0 ≤ x then ex 127 124 ls (.int (h k x.toNatClampNeg) :: st) h else none := x_iald hc_127 dX8_obeys_123 rfl
theorem x_127_124 {ls st : List Value} {h : Hp}  : ex 127 124 ls (st) h = gA (ldA ls 0) 127 125 ls st h := x_aload_n hc_127 dX8_obeys_124 rfl rfl
theorem x_127_125 {ls st : List Value} {h : Hp} {k : Nat} : ex 127 125 ls (.ref k :: st) h = if kd k = 8 then ex 127 128 ls (vl h k 18 :: st) h else none := x_getf hc_127 dX8_obeys_125 rfl fr_8_41
theorem x_127_128 {ls st : List Value} {h : Hp}  : ex 127 128 ls (st) h = gI (ldI ls 1) 127 129 ls st h := x_iload_n hc_127 dX8_obeys_128 rfl rfl
theorem x_127_129 {ls st : List Value} {h : Hp} {k : Nat} {x : Int32} : ex 127 129 ls (.int x :: .ref k :: st) h = if kd k = 9 ∧ x.toNatClampNeg < ln k ∧ 0 ≤ x then ex 127 130 ls (.int (h k x.toNatClampNeg) :: st) h else none := x_iald hc_127 dX8_obeys_129 rfl
theorem x_127_130 {ls st : List Value} {h : Hp} {a b : Int32} : ex 127 130 ls (.int b :: .int a :: st) h = ex 127 131 ls (.int (a - b) :: st) h := x_isub hc_127 dX8_obeys_130 rfl
theorem x_127_131 {ls st : List Value} {h : Hp} {x : Int32} : ex 127 131 ls (.int x :: st) h = ex 127 133 (ls.set 6 (.int x)) st h := x_istore hc_127 dX8_obeys_131 rfl (by decide)
theorem x_127_133 {ls st : List Value} {h : Hp}  : ex 127 133 ls (st) h = gI (ldI ls 6) 127 135 ls st h := x_iload hc_127 dX8_obeys_133 rfl
theorem x_127_135 {ls st : List Value} {h : Hp} {x : Int32} : ex 127 135 ls (.int x :: st) h = if x < 0 then ex 127 138 ls st h else ex 127 141 ls st h := x_if_ge hc_127 dX8_obeys_135 rfl (by decide)
theorem x_127_138 {ls st : List Value} {h : Hp}  : ex 127 138 ls (st) h = ex 127 139 ls (.int (0) :: st) h := x_iconst hc_127 dX8_obeys_138 rfl (by decide)
theorem x_127_139 {ls st : List Value} {h : Hp} {x : Int32} : ex 127 139 ls (.int x :: st) h = ex 127 141 (ls.set 6 (.int x)) st h := x_istore hc_127 dX8_obeys_139 rfl (by decide)
theorem x_127_141 {ls st : List Value} {h : Hp}  : ex 127 141 ls (st) h = gI (ldI ls 6) 127 143 ls st h := x_iload hc_127 dX8_obeys_141 rfl
theorem x_127_143 {ls st : List Value} {h : Hp}  : ex 127 143 ls (st) h = gA (ldA ls 0) 127 144 ls st h := x_aload_n hc_127 dX8_obeys_143 rfl rfl
theorem x_127_144 {ls st : List Value} {h : Hp} {k : Nat} : ex 127 144 ls (.ref k :: st) h = if kd k = 8 then ex 127 147 ls (vl h k 10 :: st) h else none := x_getf hc_127 dX8_obeys_144 rfl fr_8_17
theorem x_127_147 {ls st : List Value} {h : Hp}  : ex 127 147 ls (st) h = gI (ldI ls 4) 127 149 ls st h := x_iload hc_127 dX8_obeys_147 rfl
theorem x_127_149 {ls st : List Value} {h : Hp} {k : Nat} {x : Int32} : ex 127 149 ls (.int x :: .ref k :: st) h = if kd k = 9 ∧ x.toNatClampNeg < ln k ∧ 0 ≤ x then ex 127 150 ls (.int (h k x.toNatClampNeg) :: st) h else none := x_iald hc_127 dX8_obeys_149 rfl
theorem x_127_150 {ls st : List Value} {h : Hp} {x z : Int32} : ex 127 150 ls (.int z :: .int x :: st) h = if x < z then ex 127 153 ls st h else ex 127 158 ls st h := x_icmp_ge hc_127 dX8_obeys_150 rfl (by decide)
theorem x_127_153 {ls st : List Value} {h : Hp}  : ex 127 153 ls (st) h = gI (ldI ls 6) 127 155 ls st h := x_iload hc_127 dX8_obeys_153 rfl
theorem x_127_155 {ls st : List Value} {h : Hp}  : ex 127 155 ls (st) h = ex 127 165 ls st h := x_goto hc_127 dX8_obeys_155 (by decide)
theorem x_127_158 {ls st : List Value} {h : Hp}  : ex 127 158 ls (st) h = gA (ldA ls 0) 127 159 ls st h := x_aload_n hc_127 dX8_obeys_158 rfl rfl
theorem x_127_159 {ls st : List Value} {h : Hp} {k : Nat} : ex 127 159 ls (.ref k :: st) h = if kd k = 8 then ex 127 162 ls (vl h k 10 :: st) h else none := x_getf hc_127 dX8_obeys_159 rfl fr_8_17
theorem x_127_162 {ls st : List Value} {h : Hp}  : ex 127 162 ls (st) h = gI (ldI ls 4) 127 164 ls st h := x_iload hc_127 dX8_obeys_162 rfl
theorem x_127_164 {ls st : List Value} {h : Hp} {k : Nat} {x : Int32} : ex 127 164 ls (.int x :: .ref k :: st) h = if kd k = 9 ∧ x.toNatClampNeg < ln k ∧ 0 ≤ x then ex 127 165 ls (.int (h k x.toNatClampNeg) :: st) h else none := x_iald hc_127 dX8_obeys_164 rfl
theorem x_127_165 {ls st : List Value} {h : Hp} {x : Int32} : ex 127 165 ls (.int x :: st) h = ex 127 167 (ls.set 7 (.int x)) st h := x_istore hc_127 dX8_obeys_165 rfl (by decide)
theorem x_127_167 {ls st : List Value} {h : Hp}  : ex 127 167 ls (st) h = gI (ldI ls 7) 127 169 ls st h := x_iload hc_127 dX8_obeys_167 rfl
theorem x_127_169 {ls st : List Value} {h : Hp}  : ex 127 169 ls (st) h = gA (ldA ls 0) 127 170 ls st h := x_aload_n hc_127 dX8_obeys_169 rfl rfl
theorem x_127_170 {ls st : List Value} {h : Hp} {k : Nat} : ex 127 170 ls (.ref k :: st) h = if kd k = 8 then ex 127 173 ls (vl h k 11 :: st) h else none := x_getf hc_127 dX8_obeys_170 rfl fr_8_20
theorem x_127_173 {ls st : List Value} {h : Hp}  : ex 127 173 ls (st) h = gI (ldI ls 4) 127 175 ls st h := x_iload hc_127 dX8_obeys_173 rfl
theorem x_127_175 {ls st : List Value} {h : Hp} {k : Nat} {x : Int32} : ex 127 175 ls (.int x :: .ref k :: st) h = if kd k = 9 ∧ x.toNatClampNeg < ln k ∧ 0 ≤ x then ex 127 176 ls (.int (h k x.toNatClampNeg) :: st) h else none := x_iald hc_127 dX8_obeys_175 rfl
theorem x_127_176 {ls st : List Value} {h : Hp}  : ex 127 176 ls (st) h = gA (ldA ls 0) 127 177 ls st h := x_aload_n hc_127 dX8_obeys_176 rfl rfl
theorem x_127_177 {ls st : List Value} {h : Hp} {k : Nat} : ex 127 177 ls (.ref k :: st) h = if kd k = 8 then ex 127 180 ls (vl h k 14 :: st) h else none := x_getf hc_127 dX8_obeys_177 rfl fr_8_29
theorem x_127_180 {ls st : List Value} {h : Hp}  : ex 127 180 ls (st) h = gI (ldI ls 4) 127 182 ls st h := x_iload hc_127 dX8_obeys_180 rfl
theorem x_127_182 {ls st : List Value} {h : Hp} {k : Nat} {x : Int32} : ex 127 182 ls (.int x :: .ref k :: st) h = if kd k = 9 ∧ x.toNatClampNeg < ln k ∧ 0 ≤ x then ex 127 183 ls (.int (h k x.toNatClampNeg) :: st) h else none := x_iald hc_127 dX8_obeys_182 rfl
theorem x_127_183 {ls st : List Value} {h : Hp} {a b : Int32} : ex 127 183 ls (.int b :: .int a :: st) h = ex 127 184 ls (.int (a - b) :: st) h := x_isub hc_127 dX8_obeys_183 rfl
theorem x_127_184 {ls st : List Value} {h : Hp} {x z : Int32} : ex 127 184 ls (.int z :: .int x :: st) h = if z < x then ex 127 187 ls st h else ex 127 225 ls st h := x_icmp_le hc_127 dX8_obeys_184 rfl (by decide)
theorem x_127_187 {ls st : List Value} {h : Hp}  : ex 127 187 ls (st) h = gA (ldA ls 0) 127 188 ls st h := x_aload_n hc_127 dX8_obeys_187 rfl rfl
theorem x_127_188 {ls st : List Value} {h : Hp} {k : Nat} : ex 127 188 ls (.ref k :: st) h = if kd k = 8 then ex 127 191 ls (vl h k 11 :: st) h else none := x_getf hc_127 dX8_obeys_188 rfl fr_8_20
theorem x_127_191 {ls st : List Value} {h : Hp}  : ex 127 191 ls (st) h = gI (ldI ls 4) 127 193 ls st h := x_iload hc_127 dX8_obeys_191 rfl
theorem x_127_193 {ls st : List Value} {h : Hp} {k : Nat} {x : Int32} : ex 127 193 ls (.int x :: .ref k :: st) h = if kd k = 9 ∧ x.toNatClampNeg < ln k ∧ 0 ≤ x then ex 127 194 ls (.int (h k x.toNatClampNeg) :: st) h else none := x_iald hc_127 dX8_obeys_193 rfl
theorem x_127_194 {ls st : List Value} {h : Hp}  : ex 127 194 ls (st) h = gA (ldA ls 0) 127 195 ls st h := x_aload_n hc_127 dX8_obeys_194 rfl rfl
theorem x_127_195 {ls st : List Value} {h : Hp} {k : Nat} : ex 127 195 ls (.ref k :: st) h = if kd k = 8 then ex 127 198 ls (vl h k 14 :: st) h else none := x_getf hc_127 dX8_obeys_195 rfl fr_8_29
theorem x_127_198 {ls st : List Value} {h : Hp}  : ex 127 198 ls (st) h = gI (ldI ls 4) 127 200 ls st h := x_iload hc_127 dX8_obeys_198 rfl
theorem x_127_200 {ls st : List Value} {h : Hp} {k : Nat} {x : Int32} : ex 127 200 ls (.int x :: .ref k :: st) h = if kd k = 9 ∧ x.toNatClampNeg < ln k ∧ 0 ≤ x then ex 127 201 ls (.int (h k x.toNatClampNeg) :: st) h else none := x_iald hc_127 dX8_obeys_200 rfl
theorem x_127_201 {ls st : List Value} {h : Hp} {x z : Int32} : ex 127 201 ls (.int z :: .int x :: st) h = if z < x then ex 127 204 ls st h else ex 127 222 ls st h := x_icmp_le hc_127 dX8_obeys_201 rfl (by decide)
theorem x_127_204 {ls st : List Value} {h : Hp}  : ex 127 204 ls (st) h = gA (ldA ls 0) 127 205 ls st h := x_aload_n hc_127 dX8_obeys_204 rfl rfl
theorem x_127_205 {ls st : List Value} {h : Hp} {k : Nat} : ex 127 205 ls (.ref k :: st) h = if kd k = 8 then ex 127 208 ls (vl h k 11 :: st) h else none := x_getf hc_127 dX8_obeys_205 rfl fr_8_20
theorem x_127_208 {ls st : List Value} {h : Hp}  : ex 127 208 ls (st) h = gI (ldI ls 4) 127 210 ls st h := x_iload hc_127 dX8_obeys_208 rfl
theorem x_127_210 {ls st : List Value} {h : Hp} {k : Nat} {x : Int32} : ex 127 210 ls (.int x :: .ref k :: st) h = if kd k = 9 ∧ x.toNatClampNeg < ln k ∧ 0 ≤ x then ex 127 211 ls (.int (h k x.toNatClampNeg) :: st) h else none := x_iald hc_127 dX8_obeys_210 rfl
theorem x_127_211 {ls st : List Value} {h : Hp}  : ex 127 211 ls (st) h = gA (ldA ls 0) 127 212 ls st h := x_aload_n hc_127 dX8_obeys_211 rfl rfl
theorem x_127_212 {ls st : List Value} {h : Hp} {k : Nat} : ex 127 212 ls (.ref k :: st) h = if kd k = 8 then ex 127 215 ls (vl h k 14 :: st) h else none := x_getf hc_127 dX8_obeys_212 rfl fr_8_29
theorem x_127_215 {ls st : List Value} {h : Hp}  : ex 127 215 ls (st) h = gI (ldI ls 4) 127 217 ls st h := x_iload hc_127 dX8_obeys_215 rfl
theorem x_127_217 {ls st : List Value} {h : Hp} {k : Nat} {x : Int32} : ex 127 217 ls (.int x :: .ref k :: st) h = if kd k = 9 ∧ x.toNatClampNeg < ln k ∧ 0 ≤ x then ex 127 218 ls (.int (h k x.toNatClampNeg) :: st) h else none := x_iald hc_127 dX8_obeys_217 rfl
theorem x_127_218 {ls st : List Value} {h : Hp} {a b : Int32} : ex 127 218 ls (.int b :: .int a :: st) h = ex 127 219 ls (.int (a - b) :: st) h := x_isub hc_127 dX8_obeys_218 rfl
theorem x_127_219 {ls st : List Value} {h : Hp}  : ex 127 219 ls (st) h = ex 127 223 ls st h := x_goto hc_127 dX8_obeys_219 (by decide)
theorem x_127_222 {ls st : List Value} {h : Hp}  : ex 127 222 ls (st) h = ex 127 223 ls (.int (0) :: st) h := x_iconst hc_127 dX8_obeys_222 rfl (by decide)
theorem x_127_223 {ls st : List Value} {h : Hp} {x : Int32} : ex 127 223 ls (.int x :: st) h = ex 127 225 (ls.set 7 (.int x)) st h := x_istore hc_127 dX8_obeys_223 rfl (by decide)
theorem x_127_225 {ls st : List Value} {h : Hp}  : ex 127 225 ls (st) h = gA (ldA ls 0) 127 226 ls st h := x_aload_n hc_127 dX8_obeys_225 rfl rfl
theorem x_127_226 {ls st : List Value} {h : Hp} {k : Nat} : ex 127 226 ls (.ref k :: st) h = if kd k = 8 then ex 127 229 ls (vl h k 18 :: st) h else none := x_getf hc_127 dX8_obeys_226 rfl fr_8_41
theorem x_127_229 {ls st : List Value} {h : Hp}  : ex 127 229 ls (st) h = gI (ldI ls 1) 127 230 ls st h := x_iload_n hc_127 dX8_obeys_229 rfl rfl
theorem x_127_230ii {ls st : List Value} {h : Hp} {u : Int32} {v : Int32} : ex 127 230 ls (.int u :: .int v :: st) h = ex 127 231 ls (.int u :: .int v :: .int u :: .int v :: st) h := x_dup2_ii hc_127 dX8_obeys_230 rfl
theorem x_127_230ia {ls st : List Value} {h : Hp} {u : Int32} {v : Nat} : ex 127 230 ls (.int u :: .ref v :: st) h = ex 127 231 ls (.int u :: .ref v :: .int u :: .ref v :: st) h := x_dup2_ia hc_127 dX8_obeys_230 rfl
theorem x_127_230ai {ls st : List Value} {h : Hp} {u : Nat} {v : Int32} : ex 127 230 ls (.ref u :: .int v :: st) h = ex 127 231 ls (.ref u :: .int v :: .ref u :: .int v :: st) h := x_dup2_ai hc_127 dX8_obeys_230 rfl
theorem x_127_230aa {ls st : List Value} {h : Hp} {u : Nat} {v : Nat} : ex 127 230 ls (.ref u :: .ref v :: st) h = ex 127 231 ls (.ref u :: .ref v :: .ref u :: .ref v :: st) h := x_dup2_aa hc_127 dX8_obeys_230 rfl
theorem x_127_231 {ls st : List Value} {h : Hp} {k : Nat} {x : Int32} : ex 127 231 ls (.int x :: .ref k :: st) h = if kd k = 9 ∧ x.toNatClampNeg < ln k ∧ 0 ≤ x then ex 127 232 ls (.int (h k x.toNatClampNeg) :: st) h else none := x_iald hc_127 dX8_obeys_231 rfl
theorem x_127_232 {ls st : List Value} {h : Hp}  : ex 127 232 ls (st) h = gI (ldI ls 7) 127 234 ls st h := x_iload hc_127 dX8_obeys_232 rfl
theorem x_127_234 {ls st : List Value} {h : Hp} {a b : Int32} : ex 127 234 ls (.int b :: .int a :: st) h = ex 127 235 ls (.int (a + b) :: st) h := x_iadd hc_127 dX8_obeys_234 rfl
theorem x_127_235 {ls st : List Value} {h : Hp} {k : Nat} {x u : Int32} : ex 127 235 ls (.int u :: .int x :: .ref k :: st) h = if kd k = 9 ∧ x.toNatClampNeg < ln k ∧ 0 ≤ x then ex 127 236 ls st (hu h k x.toNatClampNeg u) else none := x_iast hc_127 dX8_obeys_235 rfl
theorem x_127_236 {ls st : List Value} {h : Hp}  : ex 127 236 ls (st) h = gA (ldA ls 0) 127 237 ls st h := x_aload_n hc_127 dX8_obeys_236 rfl rfl
theorem x_127_237 {ls st : List Value} {h : Hp} {k : Nat} : ex 127 237 ls (.ref k :: st) h = if kd k = 8 then ex 127 240 ls (vl h k 10 :: st) h else none := x_getf hc_127 dX8_obeys_237 rfl fr_8_17
theorem x_127_240 {ls st : List Value} {h : Hp}  : ex 127 240 ls (st) h = gI (ldI ls 4) 127 242 ls st h := x_iload hc_127 dX8_obeys_240 rfl
theorem x_127_242ii {ls st : List Value} {h : Hp} {u : Int32} {v : Int32} : ex 127 242 ls (.int u :: .int v :: st) h = ex 127 243 ls (.int u :: .int v :: .int u :: .int v :: st) h := x_dup2_ii hc_127 dX8_obeys_242 rfl
theorem x_127_242ia {ls st : List Value} {h : Hp} {u : Int32} {v : Nat} : ex 127 242 ls (.int u :: .ref v :: st) h = ex 127 243 ls (.int u :: .ref v :: .int u :: .ref v :: st) h := x_dup2_ia hc_127 dX8_obeys_242 rfl
theorem x_127_242ai {ls st : List Value} {h : Hp} {u : Nat} {v : Int32} : ex 127 242 ls (.ref u :: .int v :: st) h = ex 127 243 ls (.ref u :: .int v :: .ref u :: .int v :: st) h := x_dup2_ai hc_127 dX8_obeys_242 rfl
theorem x_127_242aa {ls st : List Value} {h : Hp} {u : Nat} {v : Nat} : ex 127 242 ls (.ref u :: .ref v :: st) h = ex 127 243 ls (.ref u :: .ref v :: .ref u :: .ref v :: st) h := x_dup2_aa hc_127 dX8_obeys_242 rfl
theorem x_127_243 {ls st : List Value} {h : Hp} {k : Nat} {x : Int32} : ex 127 243 ls (.int x :: .ref k :: st) h = if kd k = 9 ∧ x.toNatClampNeg < ln k ∧ 0 ≤ x then ex 127 244 ls (.int (h k x.toNatClampNeg) :: st) h else none := x_iald hc_127 dX8_obeys_243 rfl
theorem x_127_244 {ls st : List Value} {h : Hp}  : ex 127 244 ls (st) h = gI (ldI ls 7) 127 246 ls st h := x_iload hc_127 dX8_obeys_244 rfl
theorem x_127_246 {ls st : List Value} {h : Hp} {a b : Int32} : ex 127 246 ls (.int b :: .int a :: st) h = ex 127 247 ls (.int (a - b) :: st) h := x_isub hc_127 dX8_obeys_246 rfl
theorem x_127_247 {ls st : List Value} {h : Hp} {k : Nat} {x u : Int32} : ex 127 247 ls (.int u :: .int x :: .ref k :: st) h = if kd k = 9 ∧ x.toNatClampNeg < ln k ∧ 0 ≤ x then ex 127 248 ls st (hu h k x.toNatClampNeg u) else none := x_iast hc_127 dX8_obeys_247 rfl
theorem x_127_248 {ls st : List Value} {h : Hp}  : ex 127 248 ls (st) h = gA (ldA ls 0) 127 249 ls st h := x_aload_n hc_127 dX8_obeys_248 rfl rfl
theorem x_127_249 {ls st : List Value} {h : Hp} {k : Nat} : ex 127 249 ls (.ref k :: st) h = if kd k = 8 then ex 127 252 ls (vl h k 14 :: st) h else none := x_getf hc_127 dX8_obeys_249 rfl fr_8_29
theorem x_127_252 {ls st : List Value} {h : Hp}  : ex 127 252 ls (st) h = gI (ldI ls 4) 127 254 ls st h := x_iload hc_127 dX8_obeys_252 rfl
theorem x_127_254ii {ls st : List Value} {h : Hp} {u : Int32} {v : Int32} : ex 127 254 ls (.int u :: .int v :: st) h = ex 127 255 ls (.int u :: .int v :: .int u :: .int v :: st) h := x_dup2_ii hc_127 dX8_obeys_254 rfl
theorem x_127_254ia {ls st : List Value} {h : Hp} {u : Int32} {v : Nat} : ex 127 254 ls (.int u :: .ref v :: st) h = ex 127 255 ls (.int u :: .ref v :: .int u :: .ref v :: st) h := x_dup2_ia hc_127 dX8_obeys_254 rfl
theorem x_127_254ai {ls st : List Value} {h : Hp} {u : Nat} {v : Int32} : ex 127 254 ls (.ref u :: .int v :: st) h = ex 127 255 ls (.ref u :: .int v :: .ref u :: .int v :: st) h := x_dup2_ai hc_127 dX8_obeys_254 rfl
theorem x_127_254aa {ls st : List Value} {h : Hp} {u : Nat} {v : Nat} : ex 127 254 ls (.ref u :: .ref v :: st) h = ex 127 255 ls (.ref u :: .ref v :: .ref u :: .ref v :: st) h := x_dup2_aa hc_127 dX8_obeys_254 rfl
theorem x_127_255 {ls st : List Value} {h : Hp} {k : Nat} {x : Int32} : ex 127 255 ls (.int x :: .ref k :: st) h = if kd k = 9 ∧ x.toNatClampNeg < ln k ∧ 0 ≤ x then ex 127 256 ls (.int (h k x.toNatClampNeg) :: st) h else none := x_iald hc_127 dX8_obeys_255 rfl
theorem x_127_256 {ls st : List Value} {h : Hp}  : ex 127 256 ls (st) h = gI (ldI ls 7) 127 258 ls st h := x_iload hc_127 dX8_obeys_256 rfl
theorem x_127_258 {ls st : List Value} {h : Hp} {a b : Int32} : ex 127 258 ls (.int b :: .int a :: st) h = ex 127 259 ls (.int (a + b) :: st) h := x_iadd hc_127 dX8_obeys_258 rfl
theorem x_127_259 {ls st : List Value} {h : Hp} {k : Nat} {x u : Int32} : ex 127 259 ls (.int u :: .int x :: .ref k :: st) h = if kd k = 9 ∧ x.toNatClampNeg < ln k ∧ 0 ≤ x then ex 127 260 ls st (hu h k x.toNatClampNeg u) else none := x_iast hc_127 dX8_obeys_259 rfl
theorem x_127_260 {ls st : List Value} {h : Hp}  : ex 127 260 ls (st) h = gA (ldA ls 0) 127 261 ls st h := x_aload_n hc_127 dX8_obeys_260 rfl rfl
theorem x_127_261i {ls st : List Value} {h : Hp} {u : Int32} : ex 127 261 ls (.int u :: st) h = ex 127 262 ls (.int u :: .int u :: st) h := x_dup_i hc_127 dX8_obeys_261 rfl
theorem x_127_261a {ls st : List Value} {h : Hp} {u : Nat} : ex 127 261 ls (.ref u :: st) h = ex 127 262 ls (.ref u :: .ref u :: st) h := x_dup_a hc_127 dX8_obeys_261 rfl
theorem x_127_262 {ls st : List Value} {h : Hp} {k : Nat} : ex 127 262 ls (.ref k :: st) h = if kd k = 8 then ex 127 265 ls (vl h k 5 :: st) h else none := x_getf hc_127 dX8_obeys_262 rfl fr_8_171
theorem x_127_265 {ls st : List Value} {h : Hp}  : ex 127 265 ls (st) h = gI (ldI ls 7) 127 267 ls st h := x_iload hc_127 dX8_obeys_265 rfl
theorem x_127_267 {ls st : List Value} {h : Hp} {a b : Int32} : ex 127 267 ls (.int b :: .int a :: st) h = ex 127 268 ls (.int (a + b) :: st) h := x_iadd hc_127 dX8_obeys_267 rfl
theorem x_127_268 {ls st : List Value} {h : Hp} {k : Nat} {x : Int32} : ex 127 268 ls (.int x :: .ref k :: st) h = if kd k = 8 then ex 127 271 ls st (hu h k 5 x) else none := x_putf hc_127 dX8_obeys_268 rfl fr_8_171 (by decide)
theorem x_127_271 {ls st : List Value} {h : Hp}  : ex 127 271 ls (st) h = gA (ldA ls 0) 127 272 ls st h := x_aload_n hc_127 dX8_obeys_271 rfl rfl
theorem x_127_272 {ls st : List Value} {h : Hp} {k : Nat} : ex 127 272 ls (.ref k :: st) h = if kd k = 8 then ex 127 275 ls (vl h k 26 :: st) h else none := x_getf hc_127 dX8_obeys_272 rfl fr_8_65
theorem x_127_275 {ls st : List Value} {h : Hp}  : ex 127 275 ls (st) h = gI (ldI ls 1) 127 276 ls st h := x_iload_n hc_127 dX8_obeys_275 rfl rfl
theorem x_127_276 {ls st : List Value} {h : Hp}  : ex 127 276 ls (st) h = gI (ldI ls 6) 127 278 ls st h := x_iload hc_127 dX8_obeys_276 rfl
theorem x_127_278 {ls st : List Value} {h : Hp}  : ex 127 278 ls (st) h = gI (ldI ls 7) 127 280 ls st h := x_iload hc_127 dX8_obeys_278 rfl
theorem x_127_280 {ls st : List Value} {h : Hp} {a b : Int32} : ex 127 280 ls (.int b :: .int a :: st) h = ex 127 281 ls (.int (a - b) :: st) h := x_isub hc_127 dX8_obeys_280 rfl
theorem x_127_281 {ls st : List Value} {h : Hp} {k : Nat} {x u : Int32} : ex 127 281 ls (.int u :: .int x :: .ref k :: st) h = if kd k = 9 ∧ x.toNatClampNeg < ln k ∧ 0 ≤ x then ex 127 282 ls st (hu h k x.toNatClampNeg u) else none := x_iast hc_127 dX8_obeys_281 rfl
theorem x_127_282 {ls st : List Value} {h : Hp}  : ex 127 282 ls (st) h = gA (ldA ls 0) 127 283 ls st h := x_aload_n hc_127 dX8_obeys_282 rfl rfl
theorem x_127_283 {ls st : List Value} {h : Hp} {k : Nat} : ex 127 283 ls (.ref k :: st) h = if kd k = 8 then ex 127 286 ls (vl h k 25 :: st) h else none := x_getf hc_127 dX8_obeys_283 rfl fr_8_62
theorem x_127_286 {ls st : List Value} {h : Hp}  : ex 127 286 ls (st) h = gI (ldI ls 1) 127 287 ls st h := x_iload_n hc_127 dX8_obeys_286 rfl rfl
theorem x_127_287ii {ls st : List Value} {h : Hp} {u : Int32} {v : Int32} : ex 127 287 ls (.int u :: .int v :: st) h = ex 127 288 ls (.int u :: .int v :: .int u :: .int v :: st) h := x_dup2_ii hc_127 dX8_obeys_287 rfl
theorem x_127_287ia {ls st : List Value} {h : Hp} {u : Int32} {v : Nat} : ex 127 287 ls (.int u :: .ref v :: st) h = ex 127 288 ls (.int u :: .ref v :: .int u :: .ref v :: st) h := x_dup2_ia hc_127 dX8_obeys_287 rfl
theorem x_127_287ai {ls st : List Value} {h : Hp} {u : Nat} {v : Int32} : ex 127 287 ls (.ref u :: .int v :: st) h = ex 127 288 ls (.ref u :: .int v :: .ref u :: .int v :: st) h := x_dup2_ai hc_127 dX8_obeys_287 rfl
theorem x_127_287aa {ls st : List Value} {h : Hp} {u : Nat} {v : Nat} : ex 127 287 ls (.ref u :: .ref v :: st) h = ex 127 288 ls (.ref u :: .ref v :: .ref u :: .ref v :: st) h := x_dup2_aa hc_127 dX8_obeys_287 rfl
theorem x_127_288 {ls st : List Value} {h : Hp} {k : Nat} {x : Int32} : ex 127 288 ls (.int x :: .ref k :: st) h = if kd k = 9 ∧ x.toNatClampNeg < ln k ∧ 0 ≤ x then ex 127 289 ls (.int (h k x.toNatClampNeg) :: st) h else none := x_iald hc_127 dX8_obeys_288 rfl
theorem x_127_289 {ls st : List Value} {h : Hp}  : ex 127 289 ls (st) h = gA (ldA ls 0) 127 290 ls st h := x_aload_n hc_127 dX8_obeys_289 rfl rfl
theorem x_127_290 {ls st : List Value} {h : Hp} {k : Nat} : ex 127 290 ls (.ref k :: st) h = if kd k = 8 then ex 127 293 ls (vl h k 26 :: st) h else none := x_getf hc_127 dX8_obeys_290 rfl fr_8_65
theorem x_127_293 {ls st : List Value} {h : Hp}  : ex 127 293 ls (st) h = gI (ldI ls 1) 127 294 ls st h := x_iload_n hc_127 dX8_obeys_293 rfl rfl
theorem x_127_294 {ls st : List Value} {h : Hp} {k : Nat} {x : Int32} : ex 127 294 ls (.int x :: .ref k :: st) h = if kd k = 9 ∧ x.toNatClampNeg < ln k ∧ 0 ≤ x then ex 127 295 ls (.int (h k x.toNatClampNeg) :: st) h else none := x_iald hc_127 dX8_obeys_294 rfl
theorem x_127_295 {ls st : List Value} {h : Hp} {a b : Int32} : ex 127 295 ls (.int b :: .int a :: st) h = ex 127 296 ls (.int (a + b) :: st) h := x_iadd hc_127 dX8_obeys_295 rfl
theorem x_127_296 {ls st : List Value} {h : Hp} {k : Nat} {x u : Int32} : ex 127 296 ls (.int u :: .int x :: .ref k :: st) h = if kd k = 9 ∧ x.toNatClampNeg < ln k ∧ 0 ≤ x then ex 127 297 ls st (hu h k x.toNatClampNeg u) else none := x_iast hc_127 dX8_obeys_296 rfl
theorem x_127_297 {ls st : List Value} {h : Hp}  : ex 127 297 ls (st) h = ex 127 306 ls st h := x_goto hc_127 dX8_obeys_297 (by decide)
theorem x_127_300 {ls st : List Value} {h : Hp}  : ex 127 300 ls (st) h = gN (ldI ls 5) 127 303 ls 5 (-1) st h := x_iinc hc_127 dX8_obeys_300 rfl (by decide) (by decide)
theorem x_127_303 {ls st : List Value} {h : Hp}  : ex 127 303 ls (st) h = ex 127 79 ls st h := x_goto hc_127 dX8_obeys_303 (by decide)
theorem x_127_306 {ls : List Value} {h : Hp} : ex 127 306 ls [] h = some (none, h) := x_vret hc_127 dX8_obeys_306 rfl
theorem x_128_0 {ls st : List Value} {h : Hp}  : ex 128 0 ls (st) h = gA (ldA ls 0) 128 1 ls st h := x_aload_n hc_128 dX8_holds_0 rfl rfl
theorem x_128_1 {ls st : List Value} {h : Hp} {k : Nat} : ex 128 1 ls (.ref k :: st) h = if kd k = 8 then ex 128 4 ls (vl h k 39 :: st) h else none := x_getf hc_128 dX8_holds_1 rfl fr_8_102
theorem x_128_4 {ls st : List Value} {h : Hp}  : ex 128 4 ls (st) h = gI (ldI ls 1) 128 5 ls st h := x_iload_n hc_128 dX8_holds_4 rfl rfl
theorem x_128_5 {ls st : List Value} {h : Hp} {k : Nat} {x : Int32} : ex 128 5 ls (.int x :: .ref k :: st) h = if kd k = 9 ∧ x.toNatClampNeg < ln k ∧ 0 ≤ x then ex 128 6 ls (.int (h k x.toNatClampNeg) :: st) h else none := x_iald hc_128 dX8_holds_5 rfl
theorem x_128_6 {ls st : List Value} {h : Hp}  : ex 128 6 ls (st) h = gI (ldI ls 2) 128 7 ls st h := x_iload_n hc_128 dX8_holds_6 rfl rfl
theorem x_128_7 {ls st : List Value} {h : Hp} {x z : Int32} : ex 128 7 ls (.int z :: .int x :: st) h = if x = z then ex 128 10 ls st h else ex 128 32 ls st h := x_icmp_ne hc_128 dX8_holds_7 rfl (by decide)
theorem x_128_10 {ls st : List Value} {h : Hp}  : ex 128 10 ls (st) h = gI (ldI ls 4) 128 12 ls st h := x_iload hc_128 dX8_holds_10 rfl
theorem x_128_12 {ls st : List Value} {h : Hp}  : ex 128 12 ls (st) h = gA (ldA ls 0) 128 13 ls st h := x_aload_n hc_128 dX8_holds_12 rfl rfl
theorem x_128_13 {ls st : List Value} {h : Hp} {k : Nat} : ex 128 13 ls (.ref k :: st) h = if kd k = 8 then ex 128 16 ls (vl h k 41 :: st) h else none := x_getf hc_128 dX8_holds_13 rfl fr_8_108
theorem x_128_16 {ls st : List Value} {h : Hp}  : ex 128 16 ls (st) h = gI (ldI ls 1) 128 17 ls st h := x_iload_n hc_128 dX8_holds_16 rfl rfl
theorem x_128_17 {ls st : List Value} {h : Hp} {k : Nat} {x : Int32} : ex 128 17 ls (.int x :: .ref k :: st) h = if kd k = 9 ∧ x.toNatClampNeg < ln k ∧ 0 ≤ x then ex 128 18 ls (.int (h k x.toNatClampNeg) :: st) h else none := x_iald hc_128 dX8_holds_17 rfl
theorem x_128_18 {ls st : List Value} {h : Hp} {x z : Int32} : ex 128 18 ls (.int z :: .int x :: st) h = if x < z then ex 128 32 ls st h else ex 128 21 ls st h := x_icmp_lt hc_128 dX8_holds_18 rfl (by decide)
theorem x_128_21 {ls st : List Value} {h : Hp}  : ex 128 21 ls (st) h = gI (ldI ls 4) 128 23 ls st h := x_iload hc_128 dX8_holds_21 rfl
theorem x_128_23 {ls st : List Value} {h : Hp}  : ex 128 23 ls (st) h = gA (ldA ls 0) 128 24 ls st h := x_aload_n hc_128 dX8_holds_23 rfl rfl
theorem x_128_24 {ls st : List Value} {h : Hp} {k : Nat} : ex 128 24 ls (.ref k :: st) h = if kd k = 8 then ex 128 27 ls (vl h k 42 :: st) h else none := x_getf hc_128 dX8_holds_24 rfl fr_8_111
theorem x_128_27 {ls st : List Value} {h : Hp}  : ex 128 27 ls (st) h = gI (ldI ls 1) 128 28 ls st h := x_iload_n hc_128 dX8_holds_27 rfl rfl
theorem x_128_28 {ls st : List Value} {h : Hp} {k : Nat} {x : Int32} : ex 128 28 ls (.int x :: .ref k :: st) h = if kd k = 9 ∧ x.toNatClampNeg < ln k ∧ 0 ≤ x then ex 128 29 ls (.int (h k x.toNatClampNeg) :: st) h else none := x_iald hc_128 dX8_holds_28 rfl
theorem x_128_29 {ls st : List Value} {h : Hp} {x z : Int32} : ex 128 29 ls (.int z :: .int x :: st) h = if x < z then ex 128 34 ls st h else ex 128 32 ls st h := x_icmp_lt hc_128 dX8_holds_29 rfl (by decide)
theorem x_128_32 {ls st : List Value} {h : Hp}  : ex 128 32 ls (st) h = ex 128 33 ls (.int (0) :: st) h := x_iconst hc_128 dX8_holds_32 rfl (by decide)
theorem x_128_33 {ls : List Value} {h : Hp} {v : Int32} : ex 128 33 ls [.int v] h = if v = 0 ∨ v = 1 then some (some (.int v), h) else none := x_zret hc_128 dX8_holds_33 rfl
theorem x_128_34 {ls st : List Value} {h : Hp}  : ex 128 34 ls (st) h = ex 128 35 ls (.int (0) :: st) h := x_iconst hc_128 dX8_holds_34 rfl (by decide)
theorem x_128_35 {ls st : List Value} {h : Hp} {x : Int32} : ex 128 35 ls (.int x :: st) h = ex 128 37 (ls.set 6 (.int x)) st h := x_istore hc_128 dX8_holds_35 rfl (by decide)
theorem x_128_37 {ls st : List Value} {h : Hp}  : ex 128 37 ls (st) h = gI (ldI ls 6) 128 39 ls st h := x_iload hc_128 dX8_holds_37 rfl
theorem x_128_39 {ls st : List Value} {h : Hp}  : ex 128 39 ls (st) h = gA (ldA ls 0) 128 40 ls st h := x_aload_n hc_128 dX8_holds_39 rfl rfl
theorem x_128_40 {ls st : List Value} {h : Hp} {k : Nat} : ex 128 40 ls (.ref k :: st) h = if kd k = 8 then ex 128 43 ls (vl h k 43 :: st) h else none := x_getf hc_128 dX8_holds_40 rfl fr_8_114
theorem x_128_43 {ls st : List Value} {h : Hp}  : ex 128 43 ls (st) h = gI (ldI ls 1) 128 44 ls st h := x_iload_n hc_128 dX8_holds_43 rfl rfl
theorem x_128_44 {ls st : List Value} {h : Hp} {k : Nat} {x : Int32} : ex 128 44 ls (.int x :: .ref k :: st) h = if kd k = 9 ∧ x.toNatClampNeg < ln k ∧ 0 ≤ x then ex 128 45 ls (.int (h k x.toNatClampNeg) :: st) h else none := x_iald hc_128 dX8_holds_44 rfl
theorem x_128_45 {ls st : List Value} {h : Hp} {x z : Int32} : ex 128 45 ls (.int z :: .int x :: st) h = if x < z then ex 128 48 ls st h else ex 128 246 ls st h := x_icmp_ge hc_128 dX8_holds_45 rfl (by decide)
theorem x_128_48 {ls st : List Value} {h : Hp}  : ex 128 48 ls (st) h = ex 128 49 ls (.int (3) :: st) h := x_iconst hc_128 dX8_holds_48 rfl (by decide)
theorem x_128_49 {ls st : List Value} {h : Hp}  : ex 128 49 ls (st) h = gI (ldI ls 1) 128 50 ls st h := x_iload_n hc_128 dX8_holds_49 rfl rfl
theorem x_128_50 {ls st : List Value} {h : Hp} {a b : Int32} : ex 128 50 ls (.int b :: .int a :: st) h = ex 128 51 ls (.int (a * b) :: st) h := x_imul hc_128 dX8_holds_50 rfl
theorem x_128_51 {ls st : List Value} {h : Hp}  : ex 128 51 ls (st) h = gI (ldI ls 6) 128 53 ls st h := x_iload hc_128 dX8_holds_51 rfl
theorem x_128_53 {ls st : List Value} {h : Hp} {a b : Int32} : ex 128 53 ls (.int b :: .int a :: st) h = ex 128 54 ls (.int (a + b) :: st) h := x_iadd hc_128 dX8_holds_53 rfl
theorem x_128_54 {ls st : List Value} {h : Hp} {x : Int32} : ex 128 54 ls (.int x :: st) h = ex 128 56 (ls.set 7 (.int x)) st h := x_istore hc_128 dX8_holds_54 rfl (by decide)
theorem x_128_56 {ls st : List Value} {h : Hp}  : ex 128 56 ls (st) h = ex 128 57 ls (.int (0) :: st) h := x_iconst hc_128 dX8_holds_56 rfl (by decide)
theorem x_128_57 {ls st : List Value} {h : Hp} {x : Int32} : ex 128 57 ls (.int x :: st) h = ex 128 59 (ls.set 8 (.int x)) st h := x_istore hc_128 dX8_holds_57 rfl (by decide)
theorem x_128_59 {ls st : List Value} {h : Hp}  : ex 128 59 ls (st) h = gA (ldA ls 0) 128 60 ls st h := x_aload_n hc_128 dX8_holds_59 rfl rfl
theorem x_128_60 {ls st : List Value} {h : Hp} {k : Nat} : ex 128 60 ls (.ref k :: st) h = if kd k = 8 then ex 128 63 ls (vl h k 44 :: st) h else none := x_getf hc_128 dX8_holds_60 rfl fr_8_117
theorem x_128_63 {ls st : List Value} {h : Hp}  : ex 128 63 ls (st) h = gI (ldI ls 7) 128 65 ls st h := x_iload hc_128 dX8_holds_63 rfl
theorem x_128_65 {ls st : List Value} {h : Hp} {k : Nat} {x : Int32} : ex 128 65 ls (.int x :: .ref k :: st) h = if kd k = 9 ∧ x.toNatClampNeg < ln k ∧ 0 ≤ x then ex 128 66 ls (.int (h k x.toNatClampNeg) :: st) h else none := x_iald hc_128 dX8_holds_65 rfl
theorem x_128_66 {ls st : List Value} {h : Hp} {x : Int32} : ex 128 66 ls (.int x :: st) h = if x = 0 then ex 128 96 ls st h else if x = 1 then ex 128 107 ls st h else if x = 2 then ex 128 164 ls st h else if x = 3 then ex 128 176 ls st h else ex 128 187 ls st h := by
  rw [x_tbl hc_128 dX8_holds_66]
  by_cases h0 : x = 0
  · subst h0; rfl
  by_cases h1 : x = 1
  · subst h1; rfl
  by_cases h2 : x = 2
  · subst h2; rfl
  by_cases h3 : x = 3
  · subst h3; rfl
  have hz : x.toInt < 0 ∨ 3 < x.toInt := by
    have e0 := lv_neT (a := 0) h0 (by decide)
    have e1 := lv_neT (a := 1) h1 (by decide)
    have e2 := lv_neT (a := 2) h2 (by decide)
    have e3 := lv_neT (a := 3) h3 (by decide)
    omega
  rw [if_pos hz, if_neg h0, if_neg h1, if_neg h2, if_neg h3]
  rfl
theorem x_128_96 {ls st : List Value} {h : Hp}  : ex 128 96 ls (st) h = gA (ldA ls 0) 128 97 ls st h := x_aload_n hc_128 dX8_holds_96 rfl rfl
theorem x_128_97 {ls st : List Value} {h : Hp} {k : Nat} : ex 128 97 ls (.ref k :: st) h = if kd k = 8 then ex 128 100 ls (vl h k 18 :: st) h else none := x_getf hc_128 dX8_holds_97 rfl fr_8_41
theorem x_128_100 {ls st : List Value} {h : Hp}  : ex 128 100 ls (st) h = gI (ldI ls 3) 128 101 ls st h := x_iload_n hc_128 dX8_holds_100 rfl rfl
theorem x_128_101 {ls st : List Value} {h : Hp} {k : Nat} {x : Int32} : ex 128 101 ls (.int x :: .ref k :: st) h = if kd k = 9 ∧ x.toNatClampNeg < ln k ∧ 0 ≤ x then ex 128 102 ls (.int (h k x.toNatClampNeg) :: st) h else none := x_iald hc_128 dX8_holds_101 rfl
theorem x_128_102 {ls st : List Value} {h : Hp} {x : Int32} : ex 128 102 ls (.int x :: st) h = ex 128 104 (ls.set 8 (.int x)) st h := x_istore hc_128 dX8_holds_102 rfl (by decide)
theorem x_128_104 {ls st : List Value} {h : Hp}  : ex 128 104 ls (st) h = ex 128 191 ls st h := x_goto hc_128 dX8_holds_104 (by decide)
theorem x_128_107 {ls st : List Value} {h : Hp}  : ex 128 107 ls (st) h = gA (ldA ls 0) 128 108 ls st h := x_aload_n hc_128 dX8_holds_107 rfl rfl
theorem x_128_108 {ls st : List Value} {h : Hp} {k : Nat} : ex 128 108 ls (.ref k :: st) h = if kd k = 8 then ex 128 111 ls (vl h k 30 :: st) h else none := x_getf hc_128 dX8_holds_108 rfl fr_8_78
theorem x_128_111 {ls st : List Value} {h : Hp}  : ex 128 111 ls (st) h = ex 128 112 ls (.int (4) :: st) h := x_iconst hc_128 dX8_holds_111 rfl (by decide)
theorem x_128_112 {ls st : List Value} {h : Hp}  : ex 128 112 ls (st) h = gI (ldI ls 3) 128 113 ls st h := x_iload_n hc_128 dX8_holds_112 rfl rfl
theorem x_128_113 {ls st : List Value} {h : Hp} {a b : Int32} : ex 128 113 ls (.int b :: .int a :: st) h = ex 128 114 ls (.int (a * b) :: st) h := x_imul hc_128 dX8_holds_113 rfl
theorem x_128_114 {ls st : List Value} {h : Hp} {k : Nat} {x : Int32} : ex 128 114 ls (.int x :: .ref k :: st) h = if kd k = 9 ∧ x.toNatClampNeg < ln k ∧ 0 ≤ x then ex 128 115 ls (.int (h k x.toNatClampNeg) :: st) h else none := x_iald hc_128 dX8_holds_114 rfl
theorem x_128_115 {ls st : List Value} {h : Hp} {x : Int32} : ex 128 115 ls (.int x :: st) h = ex 128 117 (ls.set 8 (.int x)) st h := x_istore hc_128 dX8_holds_115 rfl (by decide)
theorem x_128_117 {ls st : List Value} {h : Hp}  : ex 128 117 ls (st) h = ex 128 118 ls (.int (1) :: st) h := x_iconst hc_128 dX8_holds_117 rfl (by decide)
theorem x_128_118 {ls st : List Value} {h : Hp} {x : Int32} : ex 128 118 ls (.int x :: st) h = ex 128 120 (ls.set 9 (.int x)) st h := x_istore hc_128 dX8_holds_118 rfl (by decide)
theorem x_128_120 {ls st : List Value} {h : Hp}  : ex 128 120 ls (st) h = gI (ldI ls 9) 128 122 ls st h := x_iload hc_128 dX8_holds_120 rfl
theorem x_128_122 {ls st : List Value} {h : Hp}  : ex 128 122 ls (st) h = ex 128 123 ls (.int (4) :: st) h := x_iconst hc_128 dX8_holds_122 rfl (by decide)
theorem x_128_123 {ls st : List Value} {h : Hp} {x z : Int32} : ex 128 123 ls (.int z :: .int x :: st) h = if x < z then ex 128 126 ls st h else ex 128 161 ls st h := x_icmp_ge hc_128 dX8_holds_123 rfl (by decide)
theorem x_128_126 {ls st : List Value} {h : Hp}  : ex 128 126 ls (st) h = gA (ldA ls 0) 128 127 ls st h := x_aload_n hc_128 dX8_holds_126 rfl rfl
theorem x_128_127 {ls st : List Value} {h : Hp} {k : Nat} : ex 128 127 ls (.ref k :: st) h = if kd k = 8 then ex 128 130 ls (vl h k 30 :: st) h else none := x_getf hc_128 dX8_holds_127 rfl fr_8_78
theorem x_128_130 {ls st : List Value} {h : Hp}  : ex 128 130 ls (st) h = ex 128 131 ls (.int (4) :: st) h := x_iconst hc_128 dX8_holds_130 rfl (by decide)
theorem x_128_131 {ls st : List Value} {h : Hp}  : ex 128 131 ls (st) h = gI (ldI ls 3) 128 132 ls st h := x_iload_n hc_128 dX8_holds_131 rfl rfl
theorem x_128_132 {ls st : List Value} {h : Hp} {a b : Int32} : ex 128 132 ls (.int b :: .int a :: st) h = ex 128 133 ls (.int (a * b) :: st) h := x_imul hc_128 dX8_holds_132 rfl
theorem x_128_133 {ls st : List Value} {h : Hp}  : ex 128 133 ls (st) h = gI (ldI ls 9) 128 135 ls st h := x_iload hc_128 dX8_holds_133 rfl
theorem x_128_135 {ls st : List Value} {h : Hp} {a b : Int32} : ex 128 135 ls (.int b :: .int a :: st) h = ex 128 136 ls (.int (a + b) :: st) h := x_iadd hc_128 dX8_holds_135 rfl
theorem x_128_136 {ls st : List Value} {h : Hp} {k : Nat} {x : Int32} : ex 128 136 ls (.int x :: .ref k :: st) h = if kd k = 9 ∧ x.toNatClampNeg < ln k ∧ 0 ≤ x then ex 128 137 ls (.int (h k x.toNatClampNeg) :: st) h else none := x_iald hc_128 dX8_holds_136 rfl
theorem x_128_137 {ls st : List Value} {h : Hp}  : ex 128 137 ls (st) h = gI (ldI ls 8) 128 139 ls st h := x_iload hc_128 dX8_holds_137 rfl
theorem x_128_139 {ls st : List Value} {h : Hp} {x z : Int32} : ex 128 139 ls (.int z :: .int x :: st) h = if z < x then ex 128 142 ls st h else ex 128 155 ls st h := x_icmp_le hc_128 dX8_holds_139 rfl (by decide)
theorem x_128_142 {ls st : List Value} {h : Hp}  : ex 128 142 ls (st) h = gA (ldA ls 0) 128 143 ls st h := x_aload_n hc_128 dX8_holds_142 rfl rfl
theorem x_128_143 {ls st : List Value} {h : Hp} {k : Nat} : ex 128 143 ls (.ref k :: st) h = if kd k = 8 then ex 128 146 ls (vl h k 30 :: st) h else none := x_getf hc_128 dX8_holds_143 rfl fr_8_78
theorem x_128_146 {ls st : List Value} {h : Hp}  : ex 128 146 ls (st) h = ex 128 147 ls (.int (4) :: st) h := x_iconst hc_128 dX8_holds_146 rfl (by decide)
theorem x_128_147 {ls st : List Value} {h : Hp}  : ex 128 147 ls (st) h = gI (ldI ls 3) 128 148 ls st h := x_iload_n hc_128 dX8_holds_147 rfl rfl
theorem x_128_148 {ls st : List Value} {h : Hp} {a b : Int32} : ex 128 148 ls (.int b :: .int a :: st) h = ex 128 149 ls (.int (a * b) :: st) h := x_imul hc_128 dX8_holds_148 rfl
theorem x_128_149 {ls st : List Value} {h : Hp}  : ex 128 149 ls (st) h = gI (ldI ls 9) 128 151 ls st h := x_iload hc_128 dX8_holds_149 rfl
theorem x_128_151 {ls st : List Value} {h : Hp} {a b : Int32} : ex 128 151 ls (.int b :: .int a :: st) h = ex 128 152 ls (.int (a + b) :: st) h := x_iadd hc_128 dX8_holds_151 rfl
theorem x_128_152 {ls st : List Value} {h : Hp} {k : Nat} {x : Int32} : ex 128 152 ls (.int x :: .ref k :: st) h = if kd k = 9 ∧ x.toNatClampNeg < ln k ∧ 0 ≤ x then ex 128 153 ls (.int (h k x.toNatClampNeg) :: st) h else none := x_iald hc_128 dX8_holds_152 rfl
theorem x_128_153 {ls st : List Value} {h : Hp} {x : Int32} : ex 128 153 ls (.int x :: st) h = ex 128 155 (ls.set 8 (.int x)) st h := x_istore hc_128 dX8_holds_153 rfl (by decide)
theorem x_128_155 {ls st : List Value} {h : Hp}  : ex 128 155 ls (st) h = gN (ldI ls 9) 128 158 ls 9 (1) st h := x_iinc hc_128 dX8_holds_155 rfl (by decide) (by decide)
theorem x_128_158 {ls st : List Value} {h : Hp}  : ex 128 158 ls (st) h = ex 128 120 ls st h := x_goto hc_128 dX8_holds_158 (by decide)
theorem x_128_161 {ls st : List Value} {h : Hp}  : ex 128 161 ls (st) h = ex 128 191 ls st h := x_goto hc_128 dX8_holds_161 (by decide)
theorem x_128_164 {ls st : List Value} {h : Hp}  : ex 128 164 ls (st) h = gA (ldA ls 0) 128 165 ls st h := x_aload_n hc_128 dX8_holds_164 rfl rfl
theorem x_128_165 {ls st : List Value} {h : Hp}  : ex 128 165 ls (st) h = gI (ldI ls 3) 128 166 ls st h := x_iload_n hc_128 dX8_holds_165 rfl rfl
theorem x_128_166 {ls st : List Value} {h : Hp}  : ex 128 166 ls (st) h = gI (ldI ls 4) 128 168 ls st h := x_iload hc_128 dX8_holds_166 rfl
theorem x_128_168 {ls st : List Value} {h : Hp} {k : Nat} {a0 : Int32} {a1 : Int32} : ex 128 168 ls (.int a1 :: .int a0 :: .ref k :: st) h = if kd k = 8 ∧ st.length ≤ 4 then gC (ex 129 0 [.ref k, .int a0, .int a1] [] h) 128 171 ls st else none := x_callV (as := [.int a0, .int a1]) hc_128 dX8_holds_168 rfl mr_8_239 rfl rfl rfl (by decide) (by decide)
theorem x_128_171 {ls st : List Value} {h : Hp} {x : Int32} : ex 128 171 ls (.int x :: st) h = ex 128 173 (ls.set 8 (.int x)) st h := x_istore hc_128 dX8_holds_171 rfl (by decide)
theorem x_128_173 {ls st : List Value} {h : Hp}  : ex 128 173 ls (st) h = ex 128 191 ls st h := x_goto hc_128 dX8_holds_173 (by decide)
theorem x_128_176 {ls st : List Value} {h : Hp}  : ex 128 176 ls (st) h = gA (ldA ls 0) 128 177 ls st h := x_aload_n hc_128 dX8_holds_176 rfl rfl
theorem x_128_177 {ls st : List Value} {h : Hp} {k : Nat} : ex 128 177 ls (.ref k :: st) h = if kd k = 8 then ex 128 180 ls (vl h k 20 :: st) h else none := x_getf hc_128 dX8_holds_177 rfl fr_8_47
theorem x_128_180 {ls st : List Value} {h : Hp}  : ex 128 180 ls (st) h = gI (ldI ls 3) 128 181 ls st h := x_iload_n hc_128 dX8_holds_180 rfl rfl
theorem x_128_181 {ls st : List Value} {h : Hp} {k : Nat} {x : Int32} : ex 128 181 ls (.int x :: .ref k :: st) h = if kd k = 9 ∧ x.toNatClampNeg < ln k ∧ 0 ≤ x then ex 128 182 ls (.int (h k x.toNatClampNeg) :: st) h else none := x_iald hc_128 dX8_holds_181 rfl
theorem x_128_182 {ls st : List Value} {h : Hp} {x : Int32} : ex 128 182 ls (.int x :: st) h = ex 128 184 (ls.set 8 (.int x)) st h := x_istore hc_128 dX8_holds_182 rfl (by decide)
theorem x_128_184 {ls st : List Value} {h : Hp}  : ex 128 184 ls (st) h = ex 128 191 ls st h := x_goto hc_128 dX8_holds_184 (by decide)
theorem x_128_187 {ls st : List Value} {h : Hp}  : ex 128 187 ls (st) h = gI (ldI ls 5) 128 189 ls st h := x_iload hc_128 dX8_holds_187 rfl
theorem x_128_189 {ls st : List Value} {h : Hp} {x : Int32} : ex 128 189 ls (.int x :: st) h = ex 128 191 (ls.set 8 (.int x)) st h := x_istore hc_128 dX8_holds_189 rfl (by decide)
theorem x_128_191 {ls st : List Value} {h : Hp}  : ex 128 191 ls (st) h = gI (ldI ls 8) 128 193 ls st h := x_iload hc_128 dX8_holds_191 rfl
theorem x_128_193 {ls st : List Value} {h : Hp}  : ex 128 193 ls (st) h = gA (ldA ls 0) 128 194 ls st h := x_aload_n hc_128 dX8_holds_193 rfl rfl
theorem x_128_194 {ls st : List Value} {h : Hp} {k : Nat} : ex 128 194 ls (.ref k :: st) h = if kd k = 8 then ex 128 197 ls (vl h k 46 :: st) h else none := x_getf hc_128 dX8_holds_194 rfl fr_8_123
theorem x_128_197 {ls st : List Value} {h : Hp}  : ex 128 197 ls (st) h = gI (ldI ls 7) 128 199 ls st h := x_iload hc_128 dX8_holds_197 rfl
theorem x_128_199 {ls st : List Value} {h : Hp} {k : Nat} {x : Int32} : ex 128 199 ls (.int x :: .ref k :: st) h = if kd k = 9 ∧ x.toNatClampNeg < ln k ∧ 0 ≤ x then ex 128 200 ls (.int (h k x.toNatClampNeg) :: st) h else none := x_iald hc_128 dX8_holds_199 rfl
theorem x_128_200 {ls st : List Value} {h : Hp} {x z : Int32} : ex 128 200 ls (.int z :: .int x :: st) h = if x < z then ex 128 203 ls st h else ex 128 207 ls st h := x_icmp_ge hc_128 dX8_holds_200 rfl (by decide)
theorem x_128_203 {ls st : List Value} {h : Hp}  : ex 128 203 ls (st) h = ex 128 204 ls (.int (-1) :: st) h := x_iconst hc_128 dX8_holds_203 rfl (by decide)
theorem x_128_204 {ls st : List Value} {h : Hp}  : ex 128 204 ls (st) h = ex 128 224 ls st h := x_goto hc_128 dX8_holds_204 (by decide)
theorem x_128_207 {ls st : List Value} {h : Hp}  : ex 128 207 ls (st) h = gI (ldI ls 8) 128 209 ls st h := x_iload hc_128 dX8_holds_207 rfl
theorem x_128_209 {ls st : List Value} {h : Hp}  : ex 128 209 ls (st) h = gA (ldA ls 0) 128 210 ls st h := x_aload_n hc_128 dX8_holds_209 rfl rfl
theorem x_128_210 {ls st : List Value} {h : Hp} {k : Nat} : ex 128 210 ls (.ref k :: st) h = if kd k = 8 then ex 128 213 ls (vl h k 46 :: st) h else none := x_getf hc_128 dX8_holds_210 rfl fr_8_123
theorem x_128_213 {ls st : List Value} {h : Hp}  : ex 128 213 ls (st) h = gI (ldI ls 7) 128 215 ls st h := x_iload hc_128 dX8_holds_213 rfl
theorem x_128_215 {ls st : List Value} {h : Hp} {k : Nat} {x : Int32} : ex 128 215 ls (.int x :: .ref k :: st) h = if kd k = 9 ∧ x.toNatClampNeg < ln k ∧ 0 ≤ x then ex 128 216 ls (.int (h k x.toNatClampNeg) :: st) h else none := x_iald hc_128 dX8_holds_215 rfl
theorem x_128_216 {ls st : List Value} {h : Hp} {x z : Int32} : ex 128 216 ls (.int z :: .int x :: st) h = if z < x then ex 128 219 ls st h else ex 128 223 ls st h := x_icmp_le hc_128 dX8_holds_216 rfl (by decide)
theorem x_128_219 {ls st : List Value} {h : Hp}  : ex 128 219 ls (st) h = ex 128 220 ls (.int (1) :: st) h := x_iconst hc_128 dX8_holds_219 rfl (by decide)
theorem x_128_220 {ls st : List Value} {h : Hp}  : ex 128 220 ls (st) h = ex 128 224 ls st h := x_goto hc_128 dX8_holds_220 (by decide)
theorem x_128_223 {ls st : List Value} {h : Hp}  : ex 128 223 ls (st) h = ex 128 224 ls (.int (0) :: st) h := x_iconst hc_128 dX8_holds_223 rfl (by decide)
theorem x_128_224 {ls st : List Value} {h : Hp} {x : Int32} : ex 128 224 ls (.int x :: st) h = ex 128 226 (ls.set 9 (.int x)) st h := x_istore hc_128 dX8_holds_224 rfl (by decide)
theorem x_128_226 {ls st : List Value} {h : Hp}  : ex 128 226 ls (st) h = gI (ldI ls 9) 128 228 ls st h := x_iload hc_128 dX8_holds_226 rfl
theorem x_128_228 {ls st : List Value} {h : Hp}  : ex 128 228 ls (st) h = gA (ldA ls 0) 128 229 ls st h := x_aload_n hc_128 dX8_holds_228 rfl rfl
theorem x_128_229 {ls st : List Value} {h : Hp} {k : Nat} : ex 128 229 ls (.ref k :: st) h = if kd k = 8 then ex 128 232 ls (vl h k 45 :: st) h else none := x_getf hc_128 dX8_holds_229 rfl fr_8_120
theorem x_128_232 {ls st : List Value} {h : Hp}  : ex 128 232 ls (st) h = gI (ldI ls 7) 128 234 ls st h := x_iload hc_128 dX8_holds_232 rfl
theorem x_128_234 {ls st : List Value} {h : Hp} {k : Nat} {x : Int32} : ex 128 234 ls (.int x :: .ref k :: st) h = if kd k = 9 ∧ x.toNatClampNeg < ln k ∧ 0 ≤ x then ex 128 235 ls (.int (h k x.toNatClampNeg) :: st) h else none := x_iald hc_128 dX8_holds_234 rfl
theorem x_128_235 {ls st : List Value} {h : Hp} {x z : Int32} : ex 128 235 ls (.int z :: .int x :: st) h = if x = z then ex 128 240 ls st h else ex 128 238 ls st h := x_icmp_eq hc_128 dX8_holds_235 rfl (by decide)
theorem x_128_238 {ls st : List Value} {h : Hp}  : ex 128 238 ls (st) h = ex 128 239 ls (.int (0) :: st) h := x_iconst hc_128 dX8_holds_238 rfl (by decide)
theorem x_128_239 {ls : List Value} {h : Hp} {v : Int32} : ex 128 239 ls [.int v] h = if v = 0 ∨ v = 1 then some (some (.int v), h) else none := x_zret hc_128 dX8_holds_239 rfl
theorem x_128_240 {ls st : List Value} {h : Hp}  : ex 128 240 ls (st) h = gN (ldI ls 6) 128 243 ls 6 (1) st h := x_iinc hc_128 dX8_holds_240 rfl (by decide) (by decide)
theorem x_128_243 {ls st : List Value} {h : Hp}  : ex 128 243 ls (st) h = ex 128 37 ls st h := x_goto hc_128 dX8_holds_243 (by decide)
theorem x_128_246 {ls st : List Value} {h : Hp}  : ex 128 246 ls (st) h = ex 128 247 ls (.int (1) :: st) h := x_iconst hc_128 dX8_holds_246 rfl (by decide)
theorem x_128_247 {ls : List Value} {h : Hp} {v : Int32} : ex 128 247 ls [.int v] h = if v = 0 ∨ v = 1 then some (some (.int v), h) else none := x_zret hc_128 dX8_holds_247 rfl
theorem x_129_0 {ls st : List Value} {h : Hp}  : ex 129 0 ls (st) h = gA (ldA ls 0) 129 1 ls st h := x_aload_n hc_129 dX8_outside_0 rfl rfl
theorem x_129_1 {ls st : List Value} {h : Hp} {k : Nat} : ex 129 1 ls (.ref k :: st) h = if kd k = 8 then ex 129 4 ls (vl h k 22 :: st) h else none := x_getf hc_129 dX8_outside_1 rfl fr_8_53
theorem x_129_4 {ls st : List Value} {h : Hp}  : ex 129 4 ls (st) h = gI (ldI ls 1) 129 5 ls st h := x_iload_n hc_129 dX8_outside_4 rfl rfl
theorem x_129_5 {ls st : List Value} {h : Hp} {k : Nat} {x : Int32} : ex 129 5 ls (.int x :: .ref k :: st) h = if kd k = 9 ∧ x.toNatClampNeg < ln k ∧ 0 ≤ x then ex 129 6 ls (.int (h k x.toNatClampNeg) :: st) h else none := x_iald hc_129 dX8_outside_5 rfl
theorem x_129_6 {ls st : List Value} {h : Hp} {x : Int32} : ex 129 6 ls (.int x :: st) h = if x = 0 then ex 129 9 ls st h else ex 129 21 ls st h := x_if_ne hc_129 dX8_outside_6 rfl (by decide)
theorem x_129_9 {ls st : List Value} {h : Hp}  : ex 129 9 ls (st) h = gA (ldA ls 0) 129 10 ls st h := x_aload_n hc_129 dX8_outside_9 rfl rfl
theorem x_129_10 {ls st : List Value} {h : Hp}  : ex 129 10 ls (st) h = gA (ldA ls 0) 129 11 ls st h := x_aload_n hc_129 dX8_outside_10 rfl rfl
theorem x_129_11 {ls st : List Value} {h : Hp} {k : Nat} : ex 129 11 ls (.ref k :: st) h = if kd k = 8 then ex 129 14 ls (vl h k 20 :: st) h else none := x_getf hc_129 dX8_outside_11 rfl fr_8_47
theorem x_129_14 {ls st : List Value} {h : Hp}  : ex 129 14 ls (st) h = gI (ldI ls 1) 129 15 ls st h := x_iload_n hc_129 dX8_outside_14 rfl rfl
theorem x_129_15 {ls st : List Value} {h : Hp} {k : Nat} {x : Int32} : ex 129 15 ls (.int x :: .ref k :: st) h = if kd k = 9 ∧ x.toNatClampNeg < ln k ∧ 0 ≤ x then ex 129 16 ls (.int (h k x.toNatClampNeg) :: st) h else none := x_iald hc_129 dX8_outside_15 rfl
theorem x_129_16 {ls st : List Value} {h : Hp}  : ex 129 16 ls (st) h = gI (ldI ls 2) 129 17 ls st h := x_iload_n hc_129 dX8_outside_16 rfl rfl
theorem x_129_17 {ls st : List Value} {h : Hp} {k : Nat} {a0 : Int32} {a1 : Int32} : ex 129 17 ls (.int a1 :: .int a0 :: .ref k :: st) h = if kd k = 8 ∧ st.length ≤ 4 then gC (ex 101 0 [.ref k, .int a0, .int a1, .null, .null] [] h) 129 20 ls st else none := x_callV (as := [.int a0, .int a1]) hc_129 dX8_outside_17 rfl mr_8_164 rfl rfl rfl (by decide) (by decide)
theorem x_129_20 {ls : List Value} {h : Hp} {v : Int32} : ex 129 20 ls [.int v] h = some (some (.int v), h) := x_iret hc_129 dX8_outside_20 rfl
theorem x_129_21 {ls st : List Value} {h : Hp}  : ex 129 21 ls (st) h = gA (ldA ls 0) 129 22 ls st h := x_aload_n hc_129 dX8_outside_21 rfl rfl
theorem x_129_22 {ls st : List Value} {h : Hp}  : ex 129 22 ls (st) h = gA (ldA ls 0) 129 23 ls st h := x_aload_n hc_129 dX8_outside_22 rfl rfl
theorem x_129_23 {ls st : List Value} {h : Hp} {k : Nat} : ex 129 23 ls (.ref k :: st) h = if kd k = 8 then ex 129 26 ls (vl h k 20 :: st) h else none := x_getf hc_129 dX8_outside_23 rfl fr_8_47
theorem x_129_26 {ls st : List Value} {h : Hp}  : ex 129 26 ls (st) h = gI (ldI ls 1) 129 27 ls st h := x_iload_n hc_129 dX8_outside_26 rfl rfl
theorem x_129_27 {ls st : List Value} {h : Hp} {k : Nat} {x : Int32} : ex 129 27 ls (.int x :: .ref k :: st) h = if kd k = 9 ∧ x.toNatClampNeg < ln k ∧ 0 ≤ x then ex 129 28 ls (.int (h k x.toNatClampNeg) :: st) h else none := x_iald hc_129 dX8_outside_27 rfl
theorem x_129_28 {ls st : List Value} {h : Hp}  : ex 129 28 ls (st) h = gI (ldI ls 2) 129 29 ls st h := x_iload_n hc_129 dX8_outside_28 rfl rfl
theorem x_129_29 {ls st : List Value} {h : Hp} {k : Nat} {a0 : Int32} {a1 : Int32} : ex 129 29 ls (.int a1 :: .int a0 :: .ref k :: st) h = if kd k = 8 ∧ st.length ≤ 4 then gC (ex 101 0 [.ref k, .int a0, .int a1, .null, .null] [] h) 129 32 ls st else none := x_callV (as := [.int a0, .int a1]) hc_129 dX8_outside_29 rfl mr_8_164 rfl rfl rfl (by decide) (by decide)
theorem x_129_32 {ls st : List Value} {h : Hp}  : ex 129 32 ls (st) h = gA (ldA ls 0) 129 33 ls st h := x_aload_n hc_129 dX8_outside_32 rfl rfl
theorem x_129_33 {ls st : List Value} {h : Hp}  : ex 129 33 ls (st) h = gA (ldA ls 0) 129 34 ls st h := x_aload_n hc_129 dX8_outside_33 rfl rfl
theorem x_129_34 {ls st : List Value} {h : Hp} {k : Nat} : ex 129 34 ls (.ref k :: st) h = if kd k = 8 then ex 129 37 ls (vl h k 21 :: st) h else none := x_getf hc_129 dX8_outside_34 rfl fr_8_50
theorem x_129_37 {ls st : List Value} {h : Hp}  : ex 129 37 ls (st) h = gI (ldI ls 1) 129 38 ls st h := x_iload_n hc_129 dX8_outside_37 rfl rfl
theorem x_129_38 {ls st : List Value} {h : Hp} {k : Nat} {x : Int32} : ex 129 38 ls (.int x :: .ref k :: st) h = if kd k = 9 ∧ x.toNatClampNeg < ln k ∧ 0 ≤ x then ex 129 39 ls (.int (h k x.toNatClampNeg) :: st) h else none := x_iald hc_129 dX8_outside_38 rfl
theorem x_129_39 {ls st : List Value} {h : Hp}  : ex 129 39 ls (st) h = gI (ldI ls 2) 129 40 ls st h := x_iload_n hc_129 dX8_outside_39 rfl rfl
theorem x_129_40 {ls st : List Value} {h : Hp} {k : Nat} {a0 : Int32} {a1 : Int32} : ex 129 40 ls (.int a1 :: .int a0 :: .ref k :: st) h = if kd k = 8 ∧ st.length ≤ 4 then gC (ex 101 0 [.ref k, .int a0, .int a1, .null, .null] [] h) 129 43 ls st else none := x_callV (as := [.int a0, .int a1]) hc_129 dX8_outside_40 rfl mr_8_164 rfl rfl rfl (by decide) (by decide)
theorem x_129_43 {ls st : List Value} {h : Hp} {a b : Int32} : ex 129 43 ls (.int b :: .int a :: st) h = ex 129 44 ls (.int (a + b) :: st) h := x_iadd hc_129 dX8_outside_43 rfl
theorem x_129_44 {ls st : List Value} {h : Hp}  : ex 129 44 ls (st) h = ex 129 45 ls (.int (2) :: st) h := x_iconst hc_129 dX8_outside_44 rfl (by decide)
theorem x_129_45 {ls st : List Value} {h : Hp} {a b : Int32} : ex 129 45 ls (.int b :: .int a :: st) h = if b = 0 then none else ex 129 46 ls (.int (a / b) :: st) h := x_idiv hc_129 dX8_outside_45 rfl
theorem x_129_46 {ls : List Value} {h : Hp} {v : Int32} : ex 129 46 ls [.int v] h = some (some (.int v), h) := x_iret hc_129 dX8_outside_46 rfl
theorem x_130_0 {ls st : List Value} {h : Hp}  : ex 130 0 ls (st) h = gA (ldA ls 0) 130 1 ls st h := x_aload_n hc_130 dX8_loses_0 rfl rfl
theorem x_130_1 {ls st : List Value} {h : Hp} {k : Nat} : ex 130 1 ls (.ref k :: st) h = if kd k = 8 then ex 130 4 ls (vl h k 30 :: st) h else none := x_getf hc_130 dX8_loses_1 rfl fr_8_78
theorem x_130_4 {ls st : List Value} {h : Hp}  : ex 130 4 ls (st) h = gI (ldI ls 1) 130 5 ls st h := x_iload_n hc_130 dX8_loses_4 rfl rfl
theorem x_130_5 {ls st : List Value} {h : Hp} {k : Nat} {x : Int32} : ex 130 5 ls (.int x :: .ref k :: st) h = if kd k = 9 ∧ x.toNatClampNeg < ln k ∧ 0 ≤ x then ex 130 6 ls (.int (h k x.toNatClampNeg) :: st) h else none := x_iald hc_130 dX8_loses_5 rfl
theorem x_130_6 {ls st : List Value} {h : Hp} {x : Int32} : ex 130 6 ls (.int x :: st) h = ex 130 7 (ls.set 2 (.int x)) st h := x_istore_n hc_130 dX8_loses_6 rfl rfl (by decide)
theorem x_130_7 {ls st : List Value} {h : Hp}  : ex 130 7 ls (st) h = ex 130 8 ls (.int (0) :: st) h := x_iconst hc_130 dX8_loses_7 rfl (by decide)
theorem x_130_8 {ls st : List Value} {h : Hp} {x : Int32} : ex 130 8 ls (.int x :: st) h = ex 130 9 (ls.set 3 (.int x)) st h := x_istore_n hc_130 dX8_loses_8 rfl rfl (by decide)
theorem x_130_9 {ls st : List Value} {h : Hp}  : ex 130 9 ls (st) h = gA (ldA ls 0) 130 10 ls st h := x_aload_n hc_130 dX8_loses_9 rfl rfl
theorem x_130_10 {ls st : List Value} {h : Hp} {k : Nat} : ex 130 10 ls (.ref k :: st) h = if kd k = 8 then ex 130 13 ls (vl h k 35 :: st) h else none := x_getf hc_130 dX8_loses_10 rfl fr_8_93
theorem x_130_13 {ls st : List Value} {h : Hp}  : ex 130 13 ls (st) h = gI (ldI ls 1) 130 14 ls st h := x_iload_n hc_130 dX8_loses_13 rfl rfl
theorem x_130_14ii {ls st : List Value} {h : Hp} {u : Int32} {v : Int32} : ex 130 14 ls (.int u :: .int v :: st) h = ex 130 15 ls (.int u :: .int v :: .int u :: .int v :: st) h := x_dup2_ii hc_130 dX8_loses_14 rfl
theorem x_130_14ia {ls st : List Value} {h : Hp} {u : Int32} {v : Nat} : ex 130 14 ls (.int u :: .ref v :: st) h = ex 130 15 ls (.int u :: .ref v :: .int u :: .ref v :: st) h := x_dup2_ia hc_130 dX8_loses_14 rfl
theorem x_130_14ai {ls st : List Value} {h : Hp} {u : Nat} {v : Int32} : ex 130 14 ls (.ref u :: .int v :: st) h = ex 130 15 ls (.ref u :: .int v :: .ref u :: .int v :: st) h := x_dup2_ai hc_130 dX8_loses_14 rfl
theorem x_130_14aa {ls st : List Value} {h : Hp} {u : Nat} {v : Nat} : ex 130 14 ls (.ref u :: .ref v :: st) h = ex 130 15 ls (.ref u :: .ref v :: .ref u :: .ref v :: st) h := x_dup2_aa hc_130 dX8_loses_14 rfl
theorem x_130_15 {ls st : List Value} {h : Hp} {k : Nat} {x : Int32} : ex 130 15 ls (.int x :: .ref k :: st) h = if kd k = 9 ∧ x.toNatClampNeg < ln k ∧ 0 ≤ x then ex 130 16 ls (.int (h k x.toNatClampNeg) :: st) h else none := x_iald hc_130 dX8_loses_15 rfl
theorem x_130_16 {ls st : List Value} {h : Hp}  : ex 130 16 ls (st) h = ex 130 17 ls (.int (1) :: st) h := x_iconst hc_130 dX8_loses_16 rfl (by decide)
theorem x_130_17 {ls st : List Value} {h : Hp} {a b : Int32} : ex 130 17 ls (.int b :: .int a :: st) h = ex 130 18 ls (.int (a + b) :: st) h := x_iadd hc_130 dX8_loses_17 rfl
theorem x_130_18 {ls st : List Value} {h : Hp} {k : Nat} {x u : Int32} : ex 130 18 ls (.int u :: .int x :: .ref k :: st) h = if kd k = 9 ∧ x.toNatClampNeg < ln k ∧ 0 ≤ x then ex 130 19 ls st (hu h k x.toNatClampNeg u) else none := x_iast hc_130 dX8_loses_18 rfl
theorem x_130_19 {ls st : List Value} {h : Hp}  : ex 130 19 ls (st) h = gA (ldA ls 0) 130 20 ls st h := x_aload_n hc_130 dX8_loses_19 rfl rfl
theorem x_130_20 {ls st : List Value} {h : Hp} {k : Nat} : ex 130 20 ls (.ref k :: st) h = if kd k = 8 then ex 130 23 ls (vl h k 31 :: st) h else none := x_getf hc_130 dX8_loses_20 rfl fr_8_81
theorem x_130_23 {ls st : List Value} {h : Hp}  : ex 130 23 ls (st) h = gI (ldI ls 1) 130 24 ls st h := x_iload_n hc_130 dX8_loses_23 rfl rfl
theorem x_130_24 {ls st : List Value} {h : Hp} {k : Nat} {x : Int32} : ex 130 24 ls (.int x :: .ref k :: st) h = if kd k = 9 ∧ x.toNatClampNeg < ln k ∧ 0 ≤ x then ex 130 25 ls (.int (h k x.toNatClampNeg) :: st) h else none := x_iald hc_130 dX8_loses_24 rfl
theorem x_130_25 {ls st : List Value} {h : Hp} {x : Int32} : ex 130 25 ls (.int x :: st) h = if x = 0 then ex 130 56 ls st h else if x = 1 then ex 130 65 ls st h else if x = 2 then ex 130 76 ls st h else if x = 3 then ex 130 113 ls st h else ex 130 125 ls st h := by
  rw [x_tbl hc_130 dX8_loses_25]
  by_cases h0 : x = 0
  · subst h0; rfl
  by_cases h1 : x = 1
  · subst h1; rfl
  by_cases h2 : x = 2
  · subst h2; rfl
  by_cases h3 : x = 3
  · subst h3; rfl
  have hz : x.toInt < 0 ∨ 3 < x.toInt := by
    have e0 := lv_neT (a := 0) h0 (by decide)
    have e1 := lv_neT (a := 1) h1 (by decide)
    have e2 := lv_neT (a := 2) h2 (by decide)
    have e3 := lv_neT (a := 3) h3 (by decide)
    omega
  rw [if_pos hz, if_neg h0, if_neg h1, if_neg h2, if_neg h3]
  rfl
theorem x_130_56 {ls st : List Value} {h : Hp}  : ex 130 56 ls (st) h = gA (ldA ls 0) 130 57 ls st h := x_aload_n hc_130 dX8_loses_56 rfl rfl
theorem x_130_57 {ls st : List Value} {h : Hp}  : ex 130 57 ls (st) h = gI (ldI ls 2) 130 58 ls st h := x_iload_n hc_130 dX8_loses_57 rfl rfl
theorem x_130_58 {ls st : List Value} {h : Hp} {k : Nat} {a0 : Int32} : ex 130 58 ls (.int a0 :: .ref k :: st) h = if kd k = 8 ∧ st.length ≤ 4 then gC (ex 131 0 [.ref k, .int a0, .null] [] h) 130 61 ls st else none := x_callV (as := [.int a0]) hc_130 dX8_loses_58 rfl mr_8_246 rfl rfl rfl (by decide) (by decide)
theorem x_130_61 {ls st : List Value} {h : Hp} {x : Int32} : ex 130 61 ls (.int x :: st) h = ex 130 62 (ls.set 3 (.int x)) st h := x_istore_n hc_130 dX8_loses_61 rfl rfl (by decide)
theorem x_130_62 {ls st : List Value} {h : Hp}  : ex 130 62 ls (st) h = ex 130 149 ls st h := x_goto hc_130 dX8_loses_62 (by decide)
theorem x_130_65 {ls st : List Value} {h : Hp}  : ex 130 65 ls (st) h = ex 130 66 ls (.int (2) :: st) h := x_iconst hc_130 dX8_loses_65 rfl (by decide)
theorem x_130_66 {ls st : List Value} {h : Hp}  : ex 130 66 ls (st) h = gA (ldA ls 0) 130 67 ls st h := x_aload_n hc_130 dX8_loses_66 rfl rfl
theorem x_130_67 {ls st : List Value} {h : Hp}  : ex 130 67 ls (st) h = gI (ldI ls 2) 130 68 ls st h := x_iload_n hc_130 dX8_loses_67 rfl rfl
theorem x_130_68 {ls st : List Value} {h : Hp} {k : Nat} {a0 : Int32} : ex 130 68 ls (.int a0 :: .ref k :: st) h = if kd k = 8 ∧ st.length ≤ 4 then gC (ex 131 0 [.ref k, .int a0, .null] [] h) 130 71 ls st else none := x_callV (as := [.int a0]) hc_130 dX8_loses_68 rfl mr_8_246 rfl rfl rfl (by decide) (by decide)
theorem x_130_71 {ls st : List Value} {h : Hp} {a b : Int32} : ex 130 71 ls (.int b :: .int a :: st) h = ex 130 72 ls (.int (a * b) :: st) h := x_imul hc_130 dX8_loses_71 rfl
theorem x_130_72 {ls st : List Value} {h : Hp} {x : Int32} : ex 130 72 ls (.int x :: st) h = ex 130 73 (ls.set 3 (.int x)) st h := x_istore_n hc_130 dX8_loses_72 rfl rfl (by decide)
theorem x_130_73 {ls st : List Value} {h : Hp}  : ex 130 73 ls (st) h = ex 130 149 ls st h := x_goto hc_130 dX8_loses_73 (by decide)
theorem x_130_76 {ls st : List Value} {h : Hp}  : ex 130 76 ls (st) h = gA (ldA ls 0) 130 77 ls st h := x_aload_n hc_130 dX8_loses_76 rfl rfl
theorem x_130_77 {ls st : List Value} {h : Hp} {k : Nat} : ex 130 77 ls (.ref k :: st) h = if kd k = 8 then ex 130 80 ls (vl h k 34 :: st) h else none := x_getf hc_130 dX8_loses_77 rfl fr_8_90
theorem x_130_80 {ls st : List Value} {h : Hp}  : ex 130 80 ls (st) h = gI (ldI ls 1) 130 81 ls st h := x_iload_n hc_130 dX8_loses_80 rfl rfl
theorem x_130_81 {ls st : List Value} {h : Hp} {k : Nat} {x : Int32} : ex 130 81 ls (.int x :: .ref k :: st) h = if kd k = 9 ∧ x.toNatClampNeg < ln k ∧ 0 ≤ x then ex 130 82 ls (.int (h k x.toNatClampNeg) :: st) h else none := x_iald hc_130 dX8_loses_81 rfl
theorem x_130_82 {ls st : List Value} {h : Hp} {x : Int32} : ex 130 82 ls (.int x :: st) h = if x = 0 then ex 130 85 ls st h else ex 130 94 ls st h := x_if_ne hc_130 dX8_loses_82 rfl (by decide)
theorem x_130_85 {ls st : List Value} {h : Hp}  : ex 130 85 ls (st) h = gA (ldA ls 0) 130 86 ls st h := x_aload_n hc_130 dX8_loses_85 rfl rfl
theorem x_130_86 {ls st : List Value} {h : Hp}  : ex 130 86 ls (st) h = gI (ldI ls 2) 130 87 ls st h := x_iload_n hc_130 dX8_loses_86 rfl rfl
theorem x_130_87 {ls st : List Value} {h : Hp} {k : Nat} {a0 : Int32} : ex 130 87 ls (.int a0 :: .ref k :: st) h = if kd k = 8 ∧ st.length ≤ 4 then gC (ex 131 0 [.ref k, .int a0, .null] [] h) 130 90 ls st else none := x_callV (as := [.int a0]) hc_130 dX8_loses_87 rfl mr_8_246 rfl rfl rfl (by decide) (by decide)
theorem x_130_90 {ls st : List Value} {h : Hp} {x : Int32} : ex 130 90 ls (.int x :: st) h = ex 130 91 (ls.set 3 (.int x)) st h := x_istore_n hc_130 dX8_loses_90 rfl rfl (by decide)
theorem x_130_91 {ls st : List Value} {h : Hp}  : ex 130 91 ls (st) h = ex 130 149 ls st h := x_goto hc_130 dX8_loses_91 (by decide)
theorem x_130_94 {ls st : List Value} {h : Hp}  : ex 130 94 ls (st) h = gI (ldI ls 2) 130 95 ls st h := x_iload_n hc_130 dX8_loses_94 rfl rfl
theorem x_130_95 {ls st : List Value} {h : Hp}  : ex 130 95 ls (st) h = ex 130 97 ls (.int (100) :: st) h := x_bipush hc_130 dX8_loses_95 rfl (by decide)
theorem x_130_97 {ls st : List Value} {h : Hp} {x z : Int32} : ex 130 97 ls (.int z :: .int x :: st) h = if x < z then ex 130 149 ls st h else ex 130 100 ls st h := x_icmp_lt hc_130 dX8_loses_97 rfl (by decide)
theorem x_130_100 {ls st : List Value} {h : Hp}  : ex 130 100 ls (st) h = gA (ldA ls 0) 130 101 ls st h := x_aload_n hc_130 dX8_loses_100 rfl rfl
theorem x_130_101 {ls st : List Value} {h : Hp} {k : Nat} : ex 130 101 ls (.ref k :: st) h = if kd k = 8 then ex 130 104 ls (vl h k 34 :: st) h else none := x_getf hc_130 dX8_loses_101 rfl fr_8_90
theorem x_130_104 {ls st : List Value} {h : Hp}  : ex 130 104 ls (st) h = gI (ldI ls 1) 130 105 ls st h := x_iload_n hc_130 dX8_loses_104 rfl rfl
theorem x_130_105ii {ls st : List Value} {h : Hp} {u : Int32} {v : Int32} : ex 130 105 ls (.int u :: .int v :: st) h = ex 130 106 ls (.int u :: .int v :: .int u :: .int v :: st) h := x_dup2_ii hc_130 dX8_loses_105 rfl
theorem x_130_105ia {ls st : List Value} {h : Hp} {u : Int32} {v : Nat} : ex 130 105 ls (.int u :: .ref v :: st) h = ex 130 106 ls (.int u :: .ref v :: .int u :: .ref v :: st) h := x_dup2_ia hc_130 dX8_loses_105 rfl
theorem x_130_105ai {ls st : List Value} {h : Hp} {u : Nat} {v : Int32} : ex 130 105 ls (.ref u :: .int v :: st) h = ex 130 106 ls (.ref u :: .int v :: .ref u :: .int v :: st) h := x_dup2_ai hc_130 dX8_loses_105 rfl
theorem x_130_105aa {ls st : List Value} {h : Hp} {u : Nat} {v : Nat} : ex 130 105 ls (.ref u :: .ref v :: st) h = ex 130 106 ls (.ref u :: .ref v :: .ref u :: .ref v :: st) h := x_dup2_aa hc_130 dX8_loses_105 rfl
theorem x_130_106 {ls st : List Value} {h : Hp} {k : Nat} {x : Int32} : ex 130 106 ls (.int x :: .ref k :: st) h = if kd k = 9 ∧ x.toNatClampNeg < ln k ∧ 0 ≤ x then ex 130 107 ls (.int (h k x.toNatClampNeg) :: st) h else none := x_iald hc_130 dX8_loses_106 rfl
theorem x_130_107 {ls st : List Value} {h : Hp}  : ex 130 107 ls (st) h = ex 130 108 ls (.int (1) :: st) h := x_iconst hc_130 dX8_loses_107 rfl (by decide)
theorem x_130_108 {ls st : List Value} {h : Hp} {a b : Int32} : ex 130 108 ls (.int b :: .int a :: st) h = ex 130 109 ls (.int (a - b) :: st) h := x_isub hc_130 dX8_loses_108 rfl
theorem x_130_109 {ls st : List Value} {h : Hp} {k : Nat} {x u : Int32} : ex 130 109 ls (.int u :: .int x :: .ref k :: st) h = if kd k = 9 ∧ x.toNatClampNeg < ln k ∧ 0 ≤ x then ex 130 110 ls st (hu h k x.toNatClampNeg u) else none := x_iast hc_130 dX8_loses_109 rfl
theorem x_130_110 {ls st : List Value} {h : Hp}  : ex 130 110 ls (st) h = ex 130 149 ls st h := x_goto hc_130 dX8_loses_110 (by decide)
theorem x_130_113 {ls st : List Value} {h : Hp}  : ex 130 113 ls (st) h = gA (ldA ls 0) 130 114 ls st h := x_aload_n hc_130 dX8_loses_113 rfl rfl
theorem x_130_114 {ls st : List Value} {h : Hp}  : ex 130 114 ls (st) h = gI (ldI ls 2) 130 115 ls st h := x_iload_n hc_130 dX8_loses_114 rfl rfl
theorem x_130_115 {ls st : List Value} {h : Hp}  : ex 130 115 ls (st) h = ex 130 117 ls (.int (60) :: st) h := x_bipush hc_130 dX8_loses_115 rfl (by decide)
theorem x_130_117 {ls st : List Value} {h : Hp} {a b : Int32} : ex 130 117 ls (.int b :: .int a :: st) h = ex 130 118 ls (.int (a - b) :: st) h := x_isub hc_130 dX8_loses_117 rfl
theorem x_130_118 {ls st : List Value} {h : Hp} {k : Nat} {a0 : Int32} : ex 130 118 ls (.int a0 :: .ref k :: st) h = if kd k = 8 ∧ st.length ≤ 4 then gC (ex 131 0 [.ref k, .int a0, .null] [] h) 130 121 ls st else none := x_callV (as := [.int a0]) hc_130 dX8_loses_118 rfl mr_8_246 rfl rfl rfl (by decide) (by decide)
theorem x_130_121 {ls st : List Value} {h : Hp} {x : Int32} : ex 130 121 ls (.int x :: st) h = ex 130 122 (ls.set 3 (.int x)) st h := x_istore_n hc_130 dX8_loses_121 rfl rfl (by decide)
theorem x_130_122 {ls st : List Value} {h : Hp}  : ex 130 122 ls (st) h = ex 130 149 ls st h := x_goto hc_130 dX8_loses_122 (by decide)
theorem x_130_125 {ls st : List Value} {h : Hp}  : ex 130 125 ls (st) h = gA (ldA ls 0) 130 126 ls st h := x_aload_n hc_130 dX8_loses_125 rfl rfl
theorem x_130_126 {ls st : List Value} {h : Hp}  : ex 130 126 ls (st) h = gI (ldI ls 2) 130 127 ls st h := x_iload_n hc_130 dX8_loses_126 rfl rfl
theorem x_130_127 {ls st : List Value} {h : Hp} {k : Nat} {a0 : Int32} : ex 130 127 ls (.int a0 :: .ref k :: st) h = if kd k = 8 ∧ st.length ≤ 4 then gC (ex 131 0 [.ref k, .int a0, .null] [] h) 130 130 ls st else none := x_callV (as := [.int a0]) hc_130 dX8_loses_127 rfl mr_8_246 rfl rfl rfl (by decide) (by decide)
theorem x_130_130 {ls st : List Value} {h : Hp}  : ex 130 130 ls (st) h = gA (ldA ls 0) 130 131 ls st h := x_aload_n hc_130 dX8_loses_130 rfl rfl
theorem x_130_131 {ls st : List Value} {h : Hp} {k : Nat} : ex 130 131 ls (.ref k :: st) h = if kd k = 8 then ex 130 134 ls (vl h k 35 :: st) h else none := x_getf hc_130 dX8_loses_131 rfl fr_8_93
theorem x_130_134 {ls st : List Value} {h : Hp}  : ex 130 134 ls (st) h = gI (ldI ls 1) 130 135 ls st h := x_iload_n hc_130 dX8_loses_134 rfl rfl
theorem x_130_135 {ls st : List Value} {h : Hp} {k : Nat} {x : Int32} : ex 130 135 ls (.int x :: .ref k :: st) h = if kd k = 9 ∧ x.toNatClampNeg < ln k ∧ 0 ≤ x then ex 130 136 ls (.int (h k x.toNatClampNeg) :: st) h else none := x_iald hc_130 dX8_loses_135 rfl
theorem x_130_136 {ls st : List Value} {h : Hp}  : ex 130 136 ls (st) h = ex 130 137 ls (.int (2) :: st) h := x_iconst hc_130 dX8_loses_136 rfl (by decide)
theorem x_130_137 {ls st : List Value} {h : Hp} {a b : Int32} : ex 130 137 ls (.int b :: .int a :: st) h = if b = 0 then none else ex 130 138 ls (.int (a % b) :: st) h := x_irem hc_130 dX8_loses_137 rfl
theorem x_130_138 {ls st : List Value} {h : Hp}  : ex 130 138 ls (st) h = ex 130 139 ls (.int (1) :: st) h := x_iconst hc_130 dX8_loses_138 rfl (by decide)
theorem x_130_139 {ls st : List Value} {h : Hp} {x z : Int32} : ex 130 139 ls (.int z :: .int x :: st) h = if x = z then ex 130 142 ls st h else ex 130 146 ls st h := x_icmp_ne hc_130 dX8_loses_139 rfl (by decide)
theorem x_130_142 {ls st : List Value} {h : Hp}  : ex 130 142 ls (st) h = ex 130 143 ls (.int (2) :: st) h := x_iconst hc_130 dX8_loses_142 rfl (by decide)
theorem x_130_143 {ls st : List Value} {h : Hp}  : ex 130 143 ls (st) h = ex 130 147 ls st h := x_goto hc_130 dX8_loses_143 (by decide)
theorem x_130_146 {ls st : List Value} {h : Hp}  : ex 130 146 ls (st) h = ex 130 147 ls (.int (1) :: st) h := x_iconst hc_130 dX8_loses_146 rfl (by decide)
theorem x_130_147 {ls st : List Value} {h : Hp} {a b : Int32} : ex 130 147 ls (.int b :: .int a :: st) h = ex 130 148 ls (.int (a * b) :: st) h := x_imul hc_130 dX8_loses_147 rfl
theorem x_130_148 {ls st : List Value} {h : Hp} {x : Int32} : ex 130 148 ls (.int x :: st) h = ex 130 149 (ls.set 3 (.int x)) st h := x_istore_n hc_130 dX8_loses_148 rfl rfl (by decide)
theorem x_130_149 {ls st : List Value} {h : Hp}  : ex 130 149 ls (st) h = gI (ldI ls 3) 130 150 ls st h := x_iload_n hc_130 dX8_loses_149 rfl rfl
theorem x_130_150 {ls st : List Value} {h : Hp}  : ex 130 150 ls (st) h = gA (ldA ls 0) 130 151 ls st h := x_aload_n hc_130 dX8_loses_150 rfl rfl
theorem x_130_151 {ls st : List Value} {h : Hp} {k : Nat} : ex 130 151 ls (.ref k :: st) h = if kd k = 8 then ex 130 154 ls (vl h k 33 :: st) h else none := x_getf hc_130 dX8_loses_151 rfl fr_8_87
theorem x_130_154 {ls st : List Value} {h : Hp}  : ex 130 154 ls (st) h = gI (ldI ls 1) 130 155 ls st h := x_iload_n hc_130 dX8_loses_154 rfl rfl
theorem x_130_155 {ls st : List Value} {h : Hp} {k : Nat} {x : Int32} : ex 130 155 ls (.int x :: .ref k :: st) h = if kd k = 9 ∧ x.toNatClampNeg < ln k ∧ 0 ≤ x then ex 130 156 ls (.int (h k x.toNatClampNeg) :: st) h else none := x_iald hc_130 dX8_loses_155 rfl
theorem x_130_156 {ls st : List Value} {h : Hp} {x z : Int32} : ex 130 156 ls (.int z :: .int x :: st) h = if z < x then ex 130 159 ls st h else ex 130 166 ls st h := x_icmp_le hc_130 dX8_loses_156 rfl (by decide)
theorem x_130_159 {ls st : List Value} {h : Hp}  : ex 130 159 ls (st) h = gA (ldA ls 0) 130 160 ls st h := x_aload_n hc_130 dX8_loses_159 rfl rfl
theorem x_130_160 {ls st : List Value} {h : Hp} {k : Nat} : ex 130 160 ls (.ref k :: st) h = if kd k = 8 then ex 130 163 ls (vl h k 33 :: st) h else none := x_getf hc_130 dX8_loses_160 rfl fr_8_87
theorem x_130_163 {ls st : List Value} {h : Hp}  : ex 130 163 ls (st) h = gI (ldI ls 1) 130 164 ls st h := x_iload_n hc_130 dX8_loses_163 rfl rfl
theorem x_130_164 {ls st : List Value} {h : Hp} {k : Nat} {x : Int32} : ex 130 164 ls (.int x :: .ref k :: st) h = if kd k = 9 ∧ x.toNatClampNeg < ln k ∧ 0 ≤ x then ex 130 165 ls (.int (h k x.toNatClampNeg) :: st) h else none := x_iald hc_130 dX8_loses_164 rfl
theorem x_130_165 {ls st : List Value} {h : Hp} {x : Int32} : ex 130 165 ls (.int x :: st) h = ex 130 166 (ls.set 3 (.int x)) st h := x_istore_n hc_130 dX8_loses_165 rfl rfl (by decide)
theorem x_130_166 {ls st : List Value} {h : Hp}  : ex 130 166 ls (st) h = gA (ldA ls 0) 130 167 ls st h := x_aload_n hc_130 dX8_loses_166 rfl rfl
theorem x_130_167 {ls st : List Value} {h : Hp} {k : Nat} : ex 130 167 ls (.ref k :: st) h = if kd k = 8 then ex 130 170 ls (vl h k 33 :: st) h else none := x_getf hc_130 dX8_loses_167 rfl fr_8_87
theorem x_130_170 {ls st : List Value} {h : Hp}  : ex 130 170 ls (st) h = gI (ldI ls 1) 130 171 ls st h := x_iload_n hc_130 dX8_loses_170 rfl rfl
theorem x_130_171ii {ls st : List Value} {h : Hp} {u : Int32} {v : Int32} : ex 130 171 ls (.int u :: .int v :: st) h = ex 130 172 ls (.int u :: .int v :: .int u :: .int v :: st) h := x_dup2_ii hc_130 dX8_loses_171 rfl
theorem x_130_171ia {ls st : List Value} {h : Hp} {u : Int32} {v : Nat} : ex 130 171 ls (.int u :: .ref v :: st) h = ex 130 172 ls (.int u :: .ref v :: .int u :: .ref v :: st) h := x_dup2_ia hc_130 dX8_loses_171 rfl
theorem x_130_171ai {ls st : List Value} {h : Hp} {u : Nat} {v : Int32} : ex 130 171 ls (.ref u :: .int v :: st) h = ex 130 172 ls (.ref u :: .int v :: .ref u :: .int v :: st) h := x_dup2_ai hc_130 dX8_loses_171 rfl
theorem x_130_171aa {ls st : List Value} {h : Hp} {u : Nat} {v : Nat} : ex 130 171 ls (.ref u :: .ref v :: st) h = ex 130 172 ls (.ref u :: .ref v :: .ref u :: .ref v :: st) h := x_dup2_aa hc_130 dX8_loses_171 rfl
theorem x_130_172 {ls st : List Value} {h : Hp} {k : Nat} {x : Int32} : ex 130 172 ls (.int x :: .ref k :: st) h = if kd k = 9 ∧ x.toNatClampNeg < ln k ∧ 0 ≤ x then ex 130 173 ls (.int (h k x.toNatClampNeg) :: st) h else none := x_iald hc_130 dX8_loses_172 rfl
theorem x_130_173 {ls st : List Value} {h : Hp}  : ex 130 173 ls (st) h = gI (ldI ls 3) 130 174 ls st h := x_iload_n hc_130 dX8_loses_173 rfl rfl
theorem x_130_174 {ls st : List Value} {h : Hp} {a b : Int32} : ex 130 174 ls (.int b :: .int a :: st) h = ex 130 175 ls (.int (a - b) :: st) h := x_isub hc_130 dX8_loses_174 rfl
theorem x_130_175 {ls st : List Value} {h : Hp} {k : Nat} {x u : Int32} : ex 130 175 ls (.int u :: .int x :: .ref k :: st) h = if kd k = 9 ∧ x.toNatClampNeg < ln k ∧ 0 ≤ x then ex 130 176 ls st (hu h k x.toNatClampNeg u) else none := x_iast hc_130 dX8_loses_175 rfl
theorem x_130_176 {ls st : List Value} {h : Hp}  : ex 130 176 ls (st) h = gI (ldI ls 3) 130 177 ls st h := x_iload_n hc_130 dX8_loses_176 rfl rfl
theorem x_130_177 {ls : List Value} {h : Hp} {v : Int32} : ex 130 177 ls [.int v] h = some (some (.int v), h) := x_iret hc_130 dX8_loses_177 rfl
theorem x_131_0 {ls st : List Value} {h : Hp}  : ex 131 0 ls (st) h = gI (ldI ls 1) 131 1 ls st h := x_iload_n hc_131 dX8_lossAt_0 rfl rfl
theorem x_131_1 {ls st : List Value} {h : Hp}  : ex 131 1 ls (st) h = ex 131 3 ls (.int (50) :: st) h := x_bipush hc_131 dX8_lossAt_1 rfl (by decide)
theorem x_131_3 {ls st : List Value} {h : Hp} {a b : Int32} : ex 131 3 ls (.int b :: .int a :: st) h = if b = 0 then none else ex 131 4 ls (.int (a / b) :: st) h := x_idiv hc_131 dX8_lossAt_3 rfl
theorem x_131_4 {ls st : List Value} {h : Hp} {x : Int32} : ex 131 4 ls (.int x :: st) h = ex 131 5 (ls.set 2 (.int x)) st h := x_istore_n hc_131 dX8_lossAt_4 rfl rfl (by decide)
theorem x_131_5 {ls st : List Value} {h : Hp}  : ex 131 5 ls (st) h = gA (ldA ls 0) 131 6 ls st h := x_aload_n hc_131 dX8_lossAt_5 rfl rfl
theorem x_131_6 {ls st : List Value} {h : Hp} {k : Nat} : ex 131 6 ls (.ref k :: st) h = if kd k = 8 then ex 131 9 ls (vl h k 16 :: st) h else none := x_getf hc_131 dX8_lossAt_6 rfl fr_8_35
theorem x_131_9 {ls st : List Value} {h : Hp}  : ex 131 9 ls (st) h = gI (ldI ls 2) 131 10 ls st h := x_iload_n hc_131 dX8_lossAt_9 rfl rfl
theorem x_131_10 {ls st : List Value} {h : Hp} {x : Int32} : ex 131 10 ls (.int x :: st) h = if x < 0 then ex 131 13 ls st h else ex 131 17 ls st h := x_if_ge hc_131 dX8_lossAt_10 rfl (by decide)
theorem x_131_13 {ls st : List Value} {h : Hp}  : ex 131 13 ls (st) h = ex 131 14 ls (.int (0) :: st) h := x_iconst hc_131 dX8_lossAt_13 rfl (by decide)
theorem x_131_14 {ls st : List Value} {h : Hp}  : ex 131 14 ls (st) h = ex 131 29 ls st h := x_goto hc_131 dX8_lossAt_14 (by decide)
theorem x_131_17 {ls st : List Value} {h : Hp}  : ex 131 17 ls (st) h = gI (ldI ls 2) 131 18 ls st h := x_iload_n hc_131 dX8_lossAt_17 rfl rfl
theorem x_131_18 {ls st : List Value} {h : Hp}  : ex 131 18 ls (st) h = ex 131 20 ls (.int (9) :: st) h := x_bipush hc_131 dX8_lossAt_18 rfl (by decide)
theorem x_131_20 {ls st : List Value} {h : Hp} {x z : Int32} : ex 131 20 ls (.int z :: .int x :: st) h = if z < x then ex 131 23 ls st h else ex 131 28 ls st h := x_icmp_le hc_131 dX8_lossAt_20 rfl (by decide)
theorem x_131_23 {ls st : List Value} {h : Hp}  : ex 131 23 ls (st) h = ex 131 25 ls (.int (9) :: st) h := x_bipush hc_131 dX8_lossAt_23 rfl (by decide)
theorem x_131_25 {ls st : List Value} {h : Hp}  : ex 131 25 ls (st) h = ex 131 29 ls st h := x_goto hc_131 dX8_lossAt_25 (by decide)
theorem x_131_28 {ls st : List Value} {h : Hp}  : ex 131 28 ls (st) h = gI (ldI ls 2) 131 29 ls st h := x_iload_n hc_131 dX8_lossAt_28 rfl rfl
theorem x_131_29 {ls st : List Value} {h : Hp} {k : Nat} {x : Int32} : ex 131 29 ls (.int x :: .ref k :: st) h = if kd k = 9 ∧ x.toNatClampNeg < ln k ∧ 0 ≤ x then ex 131 30 ls (.int (h k x.toNatClampNeg) :: st) h else none := x_iald hc_131 dX8_lossAt_29 rfl
theorem x_131_30 {ls : List Value} {h : Hp} {v : Int32} : ex 131 30 ls [.int v] h = some (some (.int v), h) := x_iret hc_131 dX8_lossAt_30 rfl
theorem x_132_0 {ls st : List Value} {h : Hp}  : ex 132 0 ls (st) h = gA (ldA ls 0) 132 1 ls st h := x_aload_n hc_132 dX8_sell_0 rfl rfl
theorem x_132_1 {ls st : List Value} {h : Hp}  : ex 132 1 ls (st) h = gI (ldI ls 1) 132 2 ls st h := x_iload_n hc_132 dX8_sell_1 rfl rfl
theorem x_132_2 {ls st : List Value} {h : Hp} {k : Nat} {a0 : Int32} : ex 132 2 ls (.int a0 :: .ref k :: st) h = if kd k = 8 ∧ st.length ≤ 4 then gC (ex 105 0 [.ref k, .int a0] [] h) 132 5 ls st else none := x_callV (as := [.int a0]) hc_132 dX8_sell_2 rfl mr_8_168 rfl rfl rfl (by decide) (by decide)
theorem x_132_5 {ls st : List Value} {h : Hp} {x : Int32} : ex 132 5 ls (.int x :: st) h = if x = 0 then ex 132 8 ls st h else ex 132 15 ls st h := x_if_ne hc_132 dX8_sell_5 rfl (by decide)
theorem x_132_8 {ls st : List Value} {h : Hp}  : ex 132 8 ls (st) h = gA (ldA ls 0) 132 9 ls st h := x_aload_n hc_132 dX8_sell_8 rfl rfl
theorem x_132_9 {ls st : List Value} {h : Hp}  : ex 132 9 ls (st) h = ex 132 11 ls (.int (-3) :: st) h := x_bipush hc_132 dX8_sell_9 rfl (by decide)
theorem x_132_11 {ls st : List Value} {h : Hp} {k : Nat} {a0 : Int32} : ex 132 11 ls (.int a0 :: .ref k :: st) h = if kd k = 8 ∧ st.length ≤ 4 then gC (ex 92 0 [.ref k, .int a0] [] h) 132 14 ls st else none := x_callV (as := [.int a0]) hc_132 dX8_sell_11 rfl mr_8_148 rfl rfl rfl (by decide) (by decide)
theorem x_132_14 {ls : List Value} {h : Hp} {v : Int32} : ex 132 14 ls [.int v] h = some (some (.int v), h) := x_iret hc_132 dX8_sell_14 rfl
theorem x_132_15 {ls st : List Value} {h : Hp}  : ex 132 15 ls (st) h = gA (ldA ls 0) 132 16 ls st h := x_aload_n hc_132 dX8_sell_15 rfl rfl
theorem x_132_16 {ls st : List Value} {h : Hp} {k : Nat} : ex 132 16 ls (.ref k :: st) h = if kd k = 8 then ex 132 19 ls (vl h k 27 :: st) h else none := x_getf hc_132 dX8_sell_16 rfl fr_8_68
theorem x_132_19 {ls st : List Value} {h : Hp}  : ex 132 19 ls (st) h = gI (ldI ls 1) 132 20 ls st h := x_iload_n hc_132 dX8_sell_19 rfl rfl
theorem x_132_20 {ls st : List Value} {h : Hp} {k : Nat} {x : Int32} : ex 132 20 ls (.int x :: .ref k :: st) h = if kd k = 10 ∧ x.toNatClampNeg < ln k ∧ 0 ≤ x then ex 132 21 ls (.int (h k x.toNatClampNeg) :: st) h else none := x_zald hc_132 dX8_sell_20 rfl
theorem x_132_21 {ls st : List Value} {h : Hp} {x : Int32} : ex 132 21 ls (.int x :: st) h = if x = 0 then ex 132 38 ls st h else ex 132 24 ls st h := x_if_eq hc_132 dX8_sell_21 rfl (by decide)
theorem x_132_24 {ls st : List Value} {h : Hp}  : ex 132 24 ls (st) h = gA (ldA ls 0) 132 25 ls st h := x_aload_n hc_132 dX8_sell_24 rfl rfl
theorem x_132_25 {ls st : List Value} {h : Hp} {k : Nat} : ex 132 25 ls (.ref k :: st) h = if kd k = 8 then ex 132 28 ls (vl h k 12 :: st) h else none := x_getf hc_132 dX8_sell_25 rfl fr_8_23
theorem x_132_28 {ls st : List Value} {h : Hp}  : ex 132 28 ls (st) h = gA (ldA ls 0) 132 29 ls st h := x_aload_n hc_132 dX8_sell_28 rfl rfl
theorem x_132_29 {ls st : List Value} {h : Hp} {k : Nat} : ex 132 29 ls (.ref k :: st) h = if kd k = 8 then ex 132 32 ls (vl h k 20 :: st) h else none := x_getf hc_132 dX8_sell_29 rfl fr_8_47
theorem x_132_32 {ls st : List Value} {h : Hp}  : ex 132 32 ls (st) h = gI (ldI ls 1) 132 33 ls st h := x_iload_n hc_132 dX8_sell_32 rfl rfl
theorem x_132_33 {ls st : List Value} {h : Hp} {k : Nat} {x : Int32} : ex 132 33 ls (.int x :: .ref k :: st) h = if kd k = 9 ∧ x.toNatClampNeg < ln k ∧ 0 ≤ x then ex 132 34 ls (.int (h k x.toNatClampNeg) :: st) h else none := x_iald hc_132 dX8_sell_33 rfl
theorem x_132_34 {ls st : List Value} {h : Hp} {k : Nat} {x : Int32} : ex 132 34 ls (.int x :: .ref k :: st) h = if kd k = 9 ∧ x.toNatClampNeg < ln k ∧ 0 ≤ x then ex 132 35 ls (.int (h k x.toNatClampNeg) :: st) h else none := x_iald hc_132 dX8_sell_34 rfl
theorem x_132_35 {ls st : List Value} {h : Hp} {x : Int32} : ex 132 35 ls (.int x :: st) h = if x = 0 then ex 132 38 ls st h else ex 132 45 ls st h := x_if_ne hc_132 dX8_sell_35 rfl (by decide)
theorem x_132_38 {ls st : List Value} {h : Hp}  : ex 132 38 ls (st) h = gA (ldA ls 0) 132 39 ls st h := x_aload_n hc_132 dX8_sell_38 rfl rfl
theorem x_132_39 {ls st : List Value} {h : Hp}  : ex 132 39 ls (st) h = ex 132 41 ls (.int (-7) :: st) h := x_bipush hc_132 dX8_sell_39 rfl (by decide)
theorem x_132_41 {ls st : List Value} {h : Hp} {k : Nat} {a0 : Int32} : ex 132 41 ls (.int a0 :: .ref k :: st) h = if kd k = 8 ∧ st.length ≤ 4 then gC (ex 92 0 [.ref k, .int a0] [] h) 132 44 ls st else none := x_callV (as := [.int a0]) hc_132 dX8_sell_41 rfl mr_8_148 rfl rfl rfl (by decide) (by decide)
theorem x_132_44 {ls : List Value} {h : Hp} {v : Int32} : ex 132 44 ls [.int v] h = some (some (.int v), h) := x_iret hc_132 dX8_sell_44 rfl
theorem x_132_45 {ls st : List Value} {h : Hp}  : ex 132 45 ls (st) h = gA (ldA ls 0) 132 46 ls st h := x_aload_n hc_132 dX8_sell_45 rfl rfl
theorem x_132_46 {ls st : List Value} {h : Hp}  : ex 132 46 ls (st) h = gI (ldI ls 1) 132 47 ls st h := x_iload_n hc_132 dX8_sell_46 rfl rfl
theorem x_132_47 {ls st : List Value} {h : Hp}  : ex 132 47 ls (st) h = gA (ldA ls 0) 132 48 ls st h := x_aload_n hc_132 dX8_sell_47 rfl rfl
theorem x_132_48 {ls st : List Value} {h : Hp} {k : Nat} : ex 132 48 ls (.ref k :: st) h = if kd k = 8 then ex 132 51 ls (vl h k 20 :: st) h else none := x_getf hc_132 dX8_sell_48 rfl fr_8_47
theorem x_132_51 {ls st : List Value} {h : Hp}  : ex 132 51 ls (st) h = gI (ldI ls 1) 132 52 ls st h := x_iload_n hc_132 dX8_sell_51 rfl rfl
theorem x_132_52 {ls st : List Value} {h : Hp} {k : Nat} {x : Int32} : ex 132 52 ls (.int x :: .ref k :: st) h = if kd k = 9 ∧ x.toNatClampNeg < ln k ∧ 0 ≤ x then ex 132 53 ls (.int (h k x.toNatClampNeg) :: st) h else none := x_iald hc_132 dX8_sell_52 rfl
theorem x_132_53 {ls st : List Value} {h : Hp} {k : Nat} {a0 : Int32} {a1 : Int32} : ex 132 53 ls (.int a1 :: .int a0 :: .ref k :: st) h = if kd k = 8 ∧ st.length ≤ 4 then gC (ex 133 0 [.ref k, .int a0, .int a1, .null, .null, .null] [] h) 132 56 ls st else none := x_callV (as := [.int a0, .int a1]) hc_132 dX8_sell_53 rfl mr_8_277 rfl rfl rfl (by decide) (by decide)
theorem x_132_56 {ls st : List Value} {h : Hp} {x : Int32} : ex 132 56 ls (.int x :: st) h = ex 132 57 (ls.set 2 (.int x)) st h := x_istore_n hc_132 dX8_sell_56 rfl rfl (by decide)
theorem x_132_57 {ls st : List Value} {h : Hp}  : ex 132 57 ls (st) h = gA (ldA ls 0) 132 58 ls st h := x_aload_n hc_132 dX8_sell_57 rfl rfl
theorem x_132_58 {ls st : List Value} {h : Hp} {k : Nat} : ex 132 58 ls (.ref k :: st) h = if kd k = 8 then ex 132 61 ls (vl h k 38 :: st) h else none := x_getf hc_132 dX8_sell_58 rfl fr_8_269
theorem x_132_61 {ls st : List Value} {h : Hp}  : ex 132 61 ls (st) h = ex 132 64 ls (.int (256) :: st) h := x_sipush hc_132 dX8_sell_61 rfl (by decide)
theorem x_132_64 {ls st : List Value} {h : Hp} {x z : Int32} : ex 132 64 ls (.int z :: .int x :: st) h = if x = z then ex 132 67 ls st h else ex 132 120 ls st h := x_icmp_ne hc_132 dX8_sell_64 rfl (by decide)
theorem x_132_67 {ls st : List Value} {h : Hp}  : ex 132 67 ls (st) h = ex 132 68 ls (.int (1) :: st) h := x_iconst hc_132 dX8_sell_67 rfl (by decide)
theorem x_132_68 {ls st : List Value} {h : Hp} {x : Int32} : ex 132 68 ls (.int x :: st) h = ex 132 69 (ls.set 3 (.int x)) st h := x_istore_n hc_132 dX8_sell_68 rfl rfl (by decide)
theorem x_132_69 {ls st : List Value} {h : Hp}  : ex 132 69 ls (st) h = gI (ldI ls 3) 132 70 ls st h := x_iload_n hc_132 dX8_sell_69 rfl rfl
theorem x_132_70 {ls st : List Value} {h : Hp}  : ex 132 70 ls (st) h = ex 132 73 ls (.int (256) :: st) h := x_sipush hc_132 dX8_sell_70 rfl (by decide)
theorem x_132_73 {ls st : List Value} {h : Hp} {x z : Int32} : ex 132 73 ls (.int z :: .int x :: st) h = if x < z then ex 132 76 ls st h else ex 132 110 ls st h := x_icmp_ge hc_132 dX8_sell_73 rfl (by decide)
theorem x_132_76 {ls st : List Value} {h : Hp}  : ex 132 76 ls (st) h = gA (ldA ls 0) 132 77 ls st h := x_aload_n hc_132 dX8_sell_76 rfl rfl
theorem x_132_77 {ls st : List Value} {h : Hp} {k : Nat} : ex 132 77 ls (.ref k :: st) h = if kd k = 8 then ex 132 80 ls (vl h k 36 :: st) h else none := x_getf hc_132 dX8_sell_77 rfl fr_8_96
theorem x_132_80 {ls st : List Value} {h : Hp}  : ex 132 80 ls (st) h = gI (ldI ls 3) 132 81 ls st h := x_iload_n hc_132 dX8_sell_80 rfl rfl
theorem x_132_81 {ls st : List Value} {h : Hp}  : ex 132 81 ls (st) h = ex 132 82 ls (.int (1) :: st) h := x_iconst hc_132 dX8_sell_81 rfl (by decide)
theorem x_132_82 {ls st : List Value} {h : Hp} {a b : Int32} : ex 132 82 ls (.int b :: .int a :: st) h = ex 132 83 ls (.int (a - b) :: st) h := x_isub hc_132 dX8_sell_82 rfl
theorem x_132_83 {ls st : List Value} {h : Hp}  : ex 132 83 ls (st) h = gA (ldA ls 0) 132 84 ls st h := x_aload_n hc_132 dX8_sell_83 rfl rfl
theorem x_132_84 {ls st : List Value} {h : Hp} {k : Nat} : ex 132 84 ls (.ref k :: st) h = if kd k = 8 then ex 132 87 ls (vl h k 36 :: st) h else none := x_getf hc_132 dX8_sell_84 rfl fr_8_96
theorem x_132_87 {ls st : List Value} {h : Hp}  : ex 132 87 ls (st) h = gI (ldI ls 3) 132 88 ls st h := x_iload_n hc_132 dX8_sell_87 rfl rfl
theorem x_132_88 {ls st : List Value} {h : Hp} {k : Nat} {x : Int32} : ex 132 88 ls (.int x :: .ref k :: st) h = if kd k = 9 ∧ x.toNatClampNeg < ln k ∧ 0 ≤ x then ex 132 89 ls (.int (h k x.toNatClampNeg) :: st) h else none := x_iald hc_132 dX8_sell_88 rfl
theorem x_132_89 {ls st : List Value} {h : Hp} {k : Nat} {x u : Int32} : ex 132 89 ls (.int u :: .int x :: .ref k :: st) h = if kd k = 9 ∧ x.toNatClampNeg < ln k ∧ 0 ≤ x then ex 132 90 ls st (hu h k x.toNatClampNeg u) else none := x_iast hc_132 dX8_sell_89 rfl
theorem x_132_90 {ls st : List Value} {h : Hp}  : ex 132 90 ls (st) h = gA (ldA ls 0) 132 91 ls st h := x_aload_n hc_132 dX8_sell_90 rfl rfl
theorem x_132_91 {ls st : List Value} {h : Hp} {k : Nat} : ex 132 91 ls (.ref k :: st) h = if kd k = 8 then ex 132 94 ls (vl h k 37 :: st) h else none := x_getf hc_132 dX8_sell_91 rfl fr_8_99
theorem x_132_94 {ls st : List Value} {h : Hp}  : ex 132 94 ls (st) h = gI (ldI ls 3) 132 95 ls st h := x_iload_n hc_132 dX8_sell_94 rfl rfl
theorem x_132_95 {ls st : List Value} {h : Hp}  : ex 132 95 ls (st) h = ex 132 96 ls (.int (1) :: st) h := x_iconst hc_132 dX8_sell_95 rfl (by decide)
theorem x_132_96 {ls st : List Value} {h : Hp} {a b : Int32} : ex 132 96 ls (.int b :: .int a :: st) h = ex 132 97 ls (.int (a - b) :: st) h := x_isub hc_132 dX8_sell_96 rfl
theorem x_132_97 {ls st : List Value} {h : Hp}  : ex 132 97 ls (st) h = gA (ldA ls 0) 132 98 ls st h := x_aload_n hc_132 dX8_sell_97 rfl rfl
theorem x_132_98 {ls st : List Value} {h : Hp} {k : Nat} : ex 132 98 ls (.ref k :: st) h = if kd k = 8 then ex 132 101 ls (vl h k 37 :: st) h else none := x_getf hc_132 dX8_sell_98 rfl fr_8_99
theorem x_132_101 {ls st : List Value} {h : Hp}  : ex 132 101 ls (st) h = gI (ldI ls 3) 132 102 ls st h := x_iload_n hc_132 dX8_sell_101 rfl rfl
theorem x_132_102 {ls st : List Value} {h : Hp} {k : Nat} {x : Int32} : ex 132 102 ls (.int x :: .ref k :: st) h = if kd k = 9 ∧ x.toNatClampNeg < ln k ∧ 0 ≤ x then ex 132 103 ls (.int (h k x.toNatClampNeg) :: st) h else none := x_iald hc_132 dX8_sell_102 rfl
theorem x_132_103 {ls st : List Value} {h : Hp} {k : Nat} {x u : Int32} : ex 132 103 ls (.int u :: .int x :: .ref k :: st) h = if kd k = 9 ∧ x.toNatClampNeg < ln k ∧ 0 ≤ x then ex 132 104 ls st (hu h k x.toNatClampNeg u) else none := x_iast hc_132 dX8_sell_103 rfl
theorem x_132_104 {ls st : List Value} {h : Hp}  : ex 132 104 ls (st) h = gN (ldI ls 3) 132 107 ls 3 (1) st h := x_iinc hc_132 dX8_sell_104 rfl (by decide) (by decide)
theorem x_132_107 {ls st : List Value} {h : Hp}  : ex 132 107 ls (st) h = ex 132 69 ls st h := x_goto hc_132 dX8_sell_107 (by decide)
theorem x_132_110 {ls st : List Value} {h : Hp}  : ex 132 110 ls (st) h = gA (ldA ls 0) 132 111 ls st h := x_aload_n hc_132 dX8_sell_110 rfl rfl
theorem x_132_111i {ls st : List Value} {h : Hp} {u : Int32} : ex 132 111 ls (.int u :: st) h = ex 132 112 ls (.int u :: .int u :: st) h := x_dup_i hc_132 dX8_sell_111 rfl
theorem x_132_111a {ls st : List Value} {h : Hp} {u : Nat} : ex 132 111 ls (.ref u :: st) h = ex 132 112 ls (.ref u :: .ref u :: st) h := x_dup_a hc_132 dX8_sell_111 rfl
theorem x_132_112 {ls st : List Value} {h : Hp} {k : Nat} : ex 132 112 ls (.ref k :: st) h = if kd k = 8 then ex 132 115 ls (vl h k 38 :: st) h else none := x_getf hc_132 dX8_sell_112 rfl fr_8_269
theorem x_132_115 {ls st : List Value} {h : Hp}  : ex 132 115 ls (st) h = ex 132 116 ls (.int (1) :: st) h := x_iconst hc_132 dX8_sell_115 rfl (by decide)
theorem x_132_116 {ls st : List Value} {h : Hp} {a b : Int32} : ex 132 116 ls (.int b :: .int a :: st) h = ex 132 117 ls (.int (a - b) :: st) h := x_isub hc_132 dX8_sell_116 rfl
theorem x_132_117 {ls st : List Value} {h : Hp} {k : Nat} {x : Int32} : ex 132 117 ls (.int x :: .ref k :: st) h = if kd k = 8 then ex 132 120 ls st (hu h k 38 x) else none := x_putf hc_132 dX8_sell_117 rfl fr_8_269 (by decide)
theorem x_132_120 {ls st : List Value} {h : Hp}  : ex 132 120 ls (st) h = gA (ldA ls 0) 132 121 ls st h := x_aload_n hc_132 dX8_sell_120 rfl rfl
theorem x_132_121 {ls st : List Value} {h : Hp} {k : Nat} : ex 132 121 ls (.ref k :: st) h = if kd k = 8 then ex 132 124 ls (vl h k 36 :: st) h else none := x_getf hc_132 dX8_sell_121 rfl fr_8_96
theorem x_132_124 {ls st : List Value} {h : Hp}  : ex 132 124 ls (st) h = gA (ldA ls 0) 132 125 ls st h := x_aload_n hc_132 dX8_sell_124 rfl rfl
theorem x_132_125 {ls st : List Value} {h : Hp} {k : Nat} : ex 132 125 ls (.ref k :: st) h = if kd k = 8 then ex 132 128 ls (vl h k 38 :: st) h else none := x_getf hc_132 dX8_sell_125 rfl fr_8_269
theorem x_132_128 {ls st : List Value} {h : Hp}  : ex 132 128 ls (st) h = gA (ldA ls 0) 132 129 ls st h := x_aload_n hc_132 dX8_sell_128 rfl rfl
theorem x_132_129 {ls st : List Value} {h : Hp} {k : Nat} : ex 132 129 ls (.ref k :: st) h = if kd k = 8 then ex 132 132 ls (vl h k 20 :: st) h else none := x_getf hc_132 dX8_sell_129 rfl fr_8_47
theorem x_132_132 {ls st : List Value} {h : Hp}  : ex 132 132 ls (st) h = gI (ldI ls 1) 132 133 ls st h := x_iload_n hc_132 dX8_sell_132 rfl rfl
theorem x_132_133 {ls st : List Value} {h : Hp} {k : Nat} {x : Int32} : ex 132 133 ls (.int x :: .ref k :: st) h = if kd k = 9 ∧ x.toNatClampNeg < ln k ∧ 0 ≤ x then ex 132 134 ls (.int (h k x.toNatClampNeg) :: st) h else none := x_iald hc_132 dX8_sell_133 rfl
theorem x_132_134 {ls st : List Value} {h : Hp} {k : Nat} {x u : Int32} : ex 132 134 ls (.int u :: .int x :: .ref k :: st) h = if kd k = 9 ∧ x.toNatClampNeg < ln k ∧ 0 ≤ x then ex 132 135 ls st (hu h k x.toNatClampNeg u) else none := x_iast hc_132 dX8_sell_134 rfl
theorem x_132_135 {ls st : List Value} {h : Hp}  : ex 132 135 ls (st) h = gA (ldA ls 0) 132 136 ls st h := x_aload_n hc_132 dX8_sell_135 rfl rfl
theorem x_132_136 {ls st : List Value} {h : Hp} {k : Nat} : ex 132 136 ls (.ref k :: st) h = if kd k = 8 then ex 132 139 ls (vl h k 37 :: st) h else none := x_getf hc_132 dX8_sell_136 rfl fr_8_99
theorem x_132_139 {ls st : List Value} {h : Hp}  : ex 132 139 ls (st) h = gA (ldA ls 0) 132 140 ls st h := x_aload_n hc_132 dX8_sell_139 rfl rfl
theorem x_132_140i {ls st : List Value} {h : Hp} {u : Int32} : ex 132 140 ls (.int u :: st) h = ex 132 141 ls (.int u :: .int u :: st) h := x_dup_i hc_132 dX8_sell_140 rfl
theorem x_132_140a {ls st : List Value} {h : Hp} {u : Nat} : ex 132 140 ls (.ref u :: st) h = ex 132 141 ls (.ref u :: .ref u :: st) h := x_dup_a hc_132 dX8_sell_140 rfl
theorem x_132_141 {ls st : List Value} {h : Hp} {k : Nat} : ex 132 141 ls (.ref k :: st) h = if kd k = 8 then ex 132 144 ls (vl h k 38 :: st) h else none := x_getf hc_132 dX8_sell_141 rfl fr_8_269
theorem x_132_144ii {ls st : List Value} {h : Hp} {u : Int32} {v : Int32} : ex 132 144 ls (.int u :: .int v :: st) h = ex 132 145 ls (.int u :: .int v :: .int u :: st) h := x_dup_x1_ii hc_132 dX8_sell_144 rfl
theorem x_132_144ia {ls st : List Value} {h : Hp} {u : Int32} {v : Nat} : ex 132 144 ls (.int u :: .ref v :: st) h = ex 132 145 ls (.int u :: .ref v :: .int u :: st) h := x_dup_x1_ia hc_132 dX8_sell_144 rfl
theorem x_132_144ai {ls st : List Value} {h : Hp} {u : Nat} {v : Int32} : ex 132 144 ls (.ref u :: .int v :: st) h = ex 132 145 ls (.ref u :: .int v :: .ref u :: st) h := x_dup_x1_ai hc_132 dX8_sell_144 rfl
theorem x_132_144aa {ls st : List Value} {h : Hp} {u : Nat} {v : Nat} : ex 132 144 ls (.ref u :: .ref v :: st) h = ex 132 145 ls (.ref u :: .ref v :: .ref u :: st) h := x_dup_x1_aa hc_132 dX8_sell_144 rfl
theorem x_132_145 {ls st : List Value} {h : Hp}  : ex 132 145 ls (st) h = ex 132 146 ls (.int (1) :: st) h := x_iconst hc_132 dX8_sell_145 rfl (by decide)
theorem x_132_146 {ls st : List Value} {h : Hp} {a b : Int32} : ex 132 146 ls (.int b :: .int a :: st) h = ex 132 147 ls (.int (a + b) :: st) h := x_iadd hc_132 dX8_sell_146 rfl
theorem x_132_147 {ls st : List Value} {h : Hp} {k : Nat} {x : Int32} : ex 132 147 ls (.int x :: .ref k :: st) h = if kd k = 8 then ex 132 150 ls st (hu h k 38 x) else none := x_putf hc_132 dX8_sell_147 rfl fr_8_269 (by decide)
theorem x_132_150 {ls st : List Value} {h : Hp}  : ex 132 150 ls (st) h = gA (ldA ls 0) 132 151 ls st h := x_aload_n hc_132 dX8_sell_150 rfl rfl
theorem x_132_151 {ls st : List Value} {h : Hp} {k : Nat} : ex 132 151 ls (.ref k :: st) h = if kd k = 8 then ex 132 154 ls (vl h k 0 :: st) h else none := x_getf hc_132 dX8_sell_151 rfl fr_8_262
theorem x_132_154 {ls st : List Value} {h : Hp} {k : Nat} {x u : Int32} : ex 132 154 ls (.int u :: .int x :: .ref k :: st) h = if kd k = 9 ∧ x.toNatClampNeg < ln k ∧ 0 ≤ x then ex 132 155 ls st (hu h k x.toNatClampNeg u) else none := x_iast hc_132 dX8_sell_154 rfl
theorem x_132_155 {ls st : List Value} {h : Hp}  : ex 132 155 ls (st) h = ex 132 156 ls (.int (0) :: st) h := x_iconst hc_132 dX8_sell_155 rfl (by decide)
theorem x_132_156 {ls st : List Value} {h : Hp} {x : Int32} : ex 132 156 ls (.int x :: st) h = ex 132 157 (ls.set 3 (.int x)) st h := x_istore_n hc_132 dX8_sell_156 rfl rfl (by decide)
theorem x_132_157 {ls st : List Value} {h : Hp}  : ex 132 157 ls (st) h = gI (ldI ls 3) 132 158 ls st h := x_iload_n hc_132 dX8_sell_157 rfl rfl
theorem x_132_158 {ls st : List Value} {h : Hp}  : ex 132 158 ls (st) h = ex 132 159 ls (.int (4) :: st) h := x_iconst hc_132 dX8_sell_158 rfl (by decide)
theorem x_132_159 {ls st : List Value} {h : Hp} {x z : Int32} : ex 132 159 ls (.int z :: .int x :: st) h = if x < z then ex 132 162 ls st h else ex 132 179 ls st h := x_icmp_ge hc_132 dX8_sell_159 rfl (by decide)
theorem x_132_162 {ls st : List Value} {h : Hp}  : ex 132 162 ls (st) h = gA (ldA ls 0) 132 163 ls st h := x_aload_n hc_132 dX8_sell_162 rfl rfl
theorem x_132_163 {ls st : List Value} {h : Hp} {k : Nat} : ex 132 163 ls (.ref k :: st) h = if kd k = 8 then ex 132 166 ls (vl h k 31 :: st) h else none := x_getf hc_132 dX8_sell_163 rfl fr_8_81
theorem x_132_166 {ls st : List Value} {h : Hp}  : ex 132 166 ls (st) h = ex 132 167 ls (.int (4) :: st) h := x_iconst hc_132 dX8_sell_166 rfl (by decide)
theorem x_132_167 {ls st : List Value} {h : Hp}  : ex 132 167 ls (st) h = gI (ldI ls 1) 132 168 ls st h := x_iload_n hc_132 dX8_sell_167 rfl rfl
theorem x_132_168 {ls st : List Value} {h : Hp} {a b : Int32} : ex 132 168 ls (.int b :: .int a :: st) h = ex 132 169 ls (.int (a * b) :: st) h := x_imul hc_132 dX8_sell_168 rfl
theorem x_132_169 {ls st : List Value} {h : Hp}  : ex 132 169 ls (st) h = gI (ldI ls 3) 132 170 ls st h := x_iload_n hc_132 dX8_sell_169 rfl rfl
theorem x_132_170 {ls st : List Value} {h : Hp} {a b : Int32} : ex 132 170 ls (.int b :: .int a :: st) h = ex 132 171 ls (.int (a + b) :: st) h := x_iadd hc_132 dX8_sell_170 rfl
theorem x_132_171 {ls st : List Value} {h : Hp}  : ex 132 171 ls (st) h = ex 132 172 ls (.int (-1) :: st) h := x_iconst hc_132 dX8_sell_171 rfl (by decide)
theorem x_132_172 {ls st : List Value} {h : Hp} {k : Nat} {x u : Int32} : ex 132 172 ls (.int u :: .int x :: .ref k :: st) h = if kd k = 9 ∧ x.toNatClampNeg < ln k ∧ 0 ≤ x then ex 132 173 ls st (hu h k x.toNatClampNeg u) else none := x_iast hc_132 dX8_sell_172 rfl
theorem x_132_173 {ls st : List Value} {h : Hp}  : ex 132 173 ls (st) h = gN (ldI ls 3) 132 176 ls 3 (1) st h := x_iinc hc_132 dX8_sell_173 rfl (by decide) (by decide)
theorem x_132_176 {ls st : List Value} {h : Hp}  : ex 132 176 ls (st) h = ex 132 157 ls st h := x_goto hc_132 dX8_sell_176 (by decide)
theorem x_132_179 {ls st : List Value} {h : Hp}  : ex 132 179 ls (st) h = gA (ldA ls 0) 132 180 ls st h := x_aload_n hc_132 dX8_sell_179 rfl rfl
theorem x_132_180 {ls st : List Value} {h : Hp} {k : Nat} : ex 132 180 ls (.ref k :: st) h = if kd k = 8 then ex 132 183 ls (vl h k 27 :: st) h else none := x_getf hc_132 dX8_sell_180 rfl fr_8_68
theorem x_132_183 {ls st : List Value} {h : Hp}  : ex 132 183 ls (st) h = gI (ldI ls 1) 132 184 ls st h := x_iload_n hc_132 dX8_sell_183 rfl rfl
theorem x_132_184 {ls st : List Value} {h : Hp}  : ex 132 184 ls (st) h = ex 132 185 ls (.int (0) :: st) h := x_iconst hc_132 dX8_sell_184 rfl (by decide)
theorem x_132_185 {ls st : List Value} {h : Hp} {k : Nat} {x u : Int32} : ex 132 185 ls (.int u :: .int x :: .ref k :: st) h = if (kd k = 10 ∧ x.toNatClampNeg < ln k ∧ 0 ≤ x) ∧ (u = 0 ∨ u = 1) then ex 132 186 ls st (hu h k x.toNatClampNeg u) else none := x_zast hc_132 dX8_sell_185 rfl
theorem x_132_186 {ls st : List Value} {h : Hp}  : ex 132 186 ls (st) h = gA (ldA ls 0) 132 187 ls st h := x_aload_n hc_132 dX8_sell_186 rfl rfl
theorem x_132_187i {ls st : List Value} {h : Hp} {u : Int32} : ex 132 187 ls (.int u :: st) h = ex 132 188 ls (.int u :: .int u :: st) h := x_dup_i hc_132 dX8_sell_187 rfl
theorem x_132_187a {ls st : List Value} {h : Hp} {u : Nat} : ex 132 187 ls (.ref u :: st) h = ex 132 188 ls (.ref u :: .ref u :: st) h := x_dup_a hc_132 dX8_sell_187 rfl
theorem x_132_188 {ls st : List Value} {h : Hp} {k : Nat} : ex 132 188 ls (.ref k :: st) h = if kd k = 8 then ex 132 191 ls (vl h k 7 :: st) h else none := x_getf hc_132 dX8_sell_188 rfl fr_8_280
theorem x_132_191 {ls st : List Value} {h : Hp}  : ex 132 191 ls (st) h = ex 132 192 ls (.int (1) :: st) h := x_iconst hc_132 dX8_sell_191 rfl (by decide)
theorem x_132_192 {ls st : List Value} {h : Hp} {a b : Int32} : ex 132 192 ls (.int b :: .int a :: st) h = ex 132 193 ls (.int (a + b) :: st) h := x_iadd hc_132 dX8_sell_192 rfl
theorem x_132_193 {ls st : List Value} {h : Hp} {k : Nat} {x : Int32} : ex 132 193 ls (.int x :: .ref k :: st) h = if kd k = 8 then ex 132 196 ls st (hu h k 7 x) else none := x_putf hc_132 dX8_sell_193 rfl fr_8_280 (by decide)
theorem x_132_196 {ls st : List Value} {h : Hp}  : ex 132 196 ls (st) h = gA (ldA ls 0) 132 197 ls st h := x_aload_n hc_132 dX8_sell_196 rfl rfl
theorem x_132_197i {ls st : List Value} {h : Hp} {u : Int32} : ex 132 197 ls (.int u :: st) h = ex 132 198 ls (.int u :: .int u :: st) h := x_dup_i hc_132 dX8_sell_197 rfl
theorem x_132_197a {ls st : List Value} {h : Hp} {u : Nat} : ex 132 197 ls (.ref u :: st) h = ex 132 198 ls (.ref u :: .ref u :: st) h := x_dup_a hc_132 dX8_sell_197 rfl
theorem x_132_198 {ls st : List Value} {h : Hp} {k : Nat} : ex 132 198 ls (.ref k :: st) h = if kd k = 8 then ex 132 201 ls (vl h k 8 :: st) h else none := x_getf hc_132 dX8_sell_198 rfl fr_8_283
theorem x_132_201 {ls st : List Value} {h : Hp}  : ex 132 201 ls (st) h = gI (ldI ls 2) 132 202 ls st h := x_iload_n hc_132 dX8_sell_201 rfl rfl
theorem x_132_202 {ls st : List Value} {h : Hp} {a b : Int32} : ex 132 202 ls (.int b :: .int a :: st) h = ex 132 203 ls (.int (a + b) :: st) h := x_iadd hc_132 dX8_sell_202 rfl
theorem x_132_203 {ls st : List Value} {h : Hp} {k : Nat} {x : Int32} : ex 132 203 ls (.int x :: .ref k :: st) h = if kd k = 8 then ex 132 206 ls st (hu h k 8 x) else none := x_putf hc_132 dX8_sell_203 rfl fr_8_283 (by decide)
theorem x_132_206 {ls st : List Value} {h : Hp}  : ex 132 206 ls (st) h = gI (ldI ls 2) 132 207 ls st h := x_iload_n hc_132 dX8_sell_206 rfl rfl
theorem x_132_207 {ls : List Value} {h : Hp} {v : Int32} : ex 132 207 ls [.int v] h = some (some (.int v), h) := x_iret hc_132 dX8_sell_207 rfl
theorem x_133_0 {ls st : List Value} {h : Hp}  : ex 133 0 ls (st) h = ex 133 1 ls (.int (0) :: st) h := x_iconst hc_133 dX8_brings_0 rfl (by decide)
theorem x_133_1 {ls st : List Value} {h : Hp} {x : Int32} : ex 133 1 ls (.int x :: st) h = ex 133 2 (ls.set 3 (.int x)) st h := x_istore_n hc_133 dX8_brings_1 rfl rfl (by decide)
theorem x_133_2 {ls st : List Value} {h : Hp}  : ex 133 2 ls (st) h = ex 133 3 ls (.int (0) :: st) h := x_iconst hc_133 dX8_brings_2 rfl (by decide)
theorem x_133_3 {ls st : List Value} {h : Hp} {x : Int32} : ex 133 3 ls (.int x :: st) h = ex 133 5 (ls.set 4 (.int x)) st h := x_istore hc_133 dX8_brings_3 rfl (by decide)
theorem x_133_5 {ls st : List Value} {h : Hp}  : ex 133 5 ls (st) h = gI (ldI ls 4) 133 7 ls st h := x_iload hc_133 dX8_brings_5 rfl
theorem x_133_7 {ls st : List Value} {h : Hp}  : ex 133 7 ls (st) h = ex 133 8 ls (.int (4) :: st) h := x_iconst hc_133 dX8_brings_7 rfl (by decide)
theorem x_133_8 {ls st : List Value} {h : Hp} {x z : Int32} : ex 133 8 ls (.int z :: .int x :: st) h = if x < z then ex 133 11 ls st h else ex 133 69 ls st h := x_icmp_ge hc_133 dX8_brings_8 rfl (by decide)
theorem x_133_11 {ls st : List Value} {h : Hp}  : ex 133 11 ls (st) h = ex 133 12 ls (.int (4) :: st) h := x_iconst hc_133 dX8_brings_11 rfl (by decide)
theorem x_133_12 {ls st : List Value} {h : Hp}  : ex 133 12 ls (st) h = gI (ldI ls 1) 133 13 ls st h := x_iload_n hc_133 dX8_brings_12 rfl rfl
theorem x_133_13 {ls st : List Value} {h : Hp} {a b : Int32} : ex 133 13 ls (.int b :: .int a :: st) h = ex 133 14 ls (.int (a * b) :: st) h := x_imul hc_133 dX8_brings_13 rfl
theorem x_133_14 {ls st : List Value} {h : Hp}  : ex 133 14 ls (st) h = gI (ldI ls 4) 133 16 ls st h := x_iload hc_133 dX8_brings_14 rfl
theorem x_133_16 {ls st : List Value} {h : Hp} {a b : Int32} : ex 133 16 ls (.int b :: .int a :: st) h = ex 133 17 ls (.int (a + b) :: st) h := x_iadd hc_133 dX8_brings_16 rfl
theorem x_133_17 {ls st : List Value} {h : Hp} {x : Int32} : ex 133 17 ls (.int x :: st) h = ex 133 19 (ls.set 5 (.int x)) st h := x_istore hc_133 dX8_brings_17 rfl (by decide)
theorem x_133_19 {ls st : List Value} {h : Hp}  : ex 133 19 ls (st) h = gA (ldA ls 0) 133 20 ls st h := x_aload_n hc_133 dX8_brings_19 rfl rfl
theorem x_133_20 {ls st : List Value} {h : Hp} {k : Nat} : ex 133 20 ls (.ref k :: st) h = if kd k = 8 then ex 133 23 ls (vl h k 31 :: st) h else none := x_getf hc_133 dX8_brings_20 rfl fr_8_81
theorem x_133_23 {ls st : List Value} {h : Hp}  : ex 133 23 ls (st) h = gI (ldI ls 5) 133 25 ls st h := x_iload hc_133 dX8_brings_23 rfl
theorem x_133_25 {ls st : List Value} {h : Hp} {k : Nat} {x : Int32} : ex 133 25 ls (.int x :: .ref k :: st) h = if kd k = 9 ∧ x.toNatClampNeg < ln k ∧ 0 ≤ x then ex 133 26 ls (.int (h k x.toNatClampNeg) :: st) h else none := x_iald hc_133 dX8_brings_25 rfl
theorem x_133_26 {ls st : List Value} {h : Hp}  : ex 133 26 ls (st) h = ex 133 27 ls (.int (-1) :: st) h := x_iconst hc_133 dX8_brings_26 rfl (by decide)
theorem x_133_27 {ls st : List Value} {h : Hp} {x z : Int32} : ex 133 27 ls (.int z :: .int x :: st) h = if x = z then ex 133 63 ls st h else ex 133 30 ls st h := x_icmp_eq hc_133 dX8_brings_27 rfl (by decide)
theorem x_133_30 {ls st : List Value} {h : Hp}  : ex 133 30 ls (st) h = gI (ldI ls 3) 133 31 ls st h := x_iload_n hc_133 dX8_brings_30 rfl rfl
theorem x_133_31 {ls st : List Value} {h : Hp}  : ex 133 31 ls (st) h = gA (ldA ls 0) 133 32 ls st h := x_aload_n hc_133 dX8_brings_31 rfl rfl
theorem x_133_32 {ls st : List Value} {h : Hp} {k : Nat} : ex 133 32 ls (.ref k :: st) h = if kd k = 8 then ex 133 35 ls (vl h k 32 :: st) h else none := x_getf hc_133 dX8_brings_32 rfl fr_8_84
theorem x_133_35 {ls st : List Value} {h : Hp}  : ex 133 35 ls (st) h = gI (ldI ls 5) 133 37 ls st h := x_iload hc_133 dX8_brings_35 rfl
theorem x_133_37 {ls st : List Value} {h : Hp} {k : Nat} {x : Int32} : ex 133 37 ls (.int x :: .ref k :: st) h = if kd k = 9 ∧ x.toNatClampNeg < ln k ∧ 0 ≤ x then ex 133 38 ls (.int (h k x.toNatClampNeg) :: st) h else none := x_iald hc_133 dX8_brings_37 rfl
theorem x_133_38 {ls st : List Value} {h : Hp} {a : Int32} : ex 133 38 ls (.int a :: st) h = ex 133 39 ls (.long a.toInt64 :: st) h := x_i2l hc_133 dX8_brings_38 rfl
theorem x_133_39 {ls st : List Value} {h : Hp}  : ex 133 39 ls (st) h = gA (ldA ls 0) 133 40 ls st h := x_aload_n hc_133 dX8_brings_39 rfl rfl
theorem x_133_40 {ls st : List Value} {h : Hp} {k : Nat} : ex 133 40 ls (.ref k :: st) h = if kd k = 8 then ex 133 43 ls (vl h k 33 :: st) h else none := x_getf hc_133 dX8_brings_40 rfl fr_8_87
theorem x_133_43 {ls st : List Value} {h : Hp}  : ex 133 43 ls (st) h = gI (ldI ls 5) 133 45 ls st h := x_iload hc_133 dX8_brings_43 rfl
theorem x_133_45 {ls st : List Value} {h : Hp} {k : Nat} {x : Int32} : ex 133 45 ls (.int x :: .ref k :: st) h = if kd k = 9 ∧ x.toNatClampNeg < ln k ∧ 0 ≤ x then ex 133 46 ls (.int (h k x.toNatClampNeg) :: st) h else none := x_iald hc_133 dX8_brings_45 rfl
theorem x_133_46 {ls st : List Value} {h : Hp} {a : Int32} : ex 133 46 ls (.int a :: st) h = ex 133 47 ls (.long a.toInt64 :: st) h := x_i2l hc_133 dX8_brings_46 rfl
theorem x_133_47 {ls st : List Value} {h : Hp} {a b : Int64} : ex 133 47 ls (.long b :: .long a :: st) h = ex 133 48 ls (.long (a * b) :: st) h := x_lmul hc_133 dX8_brings_47 rfl
theorem x_133_48 {ls st : List Value} {h : Hp}  : ex 133 48 ls (st) h = gA (ldA ls 0) 133 49 ls st h := x_aload_n hc_133 dX8_brings_48 rfl rfl
theorem x_133_49 {ls st : List Value} {h : Hp} {k : Nat} : ex 133 49 ls (.ref k :: st) h = if kd k = 8 then ex 133 52 ls (vl h k 12 :: st) h else none := x_getf hc_133 dX8_brings_49 rfl fr_8_23
theorem x_133_52 {ls st : List Value} {h : Hp}  : ex 133 52 ls (st) h = gI (ldI ls 2) 133 53 ls st h := x_iload_n hc_133 dX8_brings_52 rfl rfl
theorem x_133_53 {ls st : List Value} {h : Hp} {k : Nat} {x : Int32} : ex 133 53 ls (.int x :: .ref k :: st) h = if kd k = 9 ∧ x.toNatClampNeg < ln k ∧ 0 ≤ x then ex 133 54 ls (.int (h k x.toNatClampNeg) :: st) h else none := x_iald hc_133 dX8_brings_53 rfl
theorem x_133_54 {ls st : List Value} {h : Hp} {a : Int32} : ex 133 54 ls (.int a :: st) h = ex 133 55 ls (.long a.toInt64 :: st) h := x_i2l hc_133 dX8_brings_54 rfl
theorem x_133_55 {ls st : List Value} {h : Hp} {a b : Int64} : ex 133 55 ls (.long b :: .long a :: st) h = ex 133 56 ls (.long (a * b) :: st) h := x_lmul hc_133 dX8_brings_55 rfl
theorem x_133_56 {ls st : List Value} {h : Hp}  : ex 133 56 ls (st) h = ex 133 59 ls (.long 1000 :: st) h := x_ldc2 hc_133 dX8_brings_56 rfl (by decide +kernel)
theorem x_133_59 {ls st : List Value} {h : Hp} {a b : Int64} : ex 133 59 ls (.long b :: .long a :: st) h = if b = 0 then none else ex 133 60 ls (.long (a / b) :: st) h := x_ldiv hc_133 dX8_brings_59 rfl
theorem x_133_60 {ls st : List Value} {h : Hp} {a : Int64} : ex 133 60 ls (.long a :: st) h = ex 133 61 ls (.int a.toInt32 :: st) h := x_l2i hc_133 dX8_brings_60 rfl
theorem x_133_61 {ls st : List Value} {h : Hp} {a b : Int32} : ex 133 61 ls (.int b :: .int a :: st) h = ex 133 62 ls (.int (a + b) :: st) h := x_iadd hc_133 dX8_brings_61 rfl
theorem x_133_62 {ls st : List Value} {h : Hp} {x : Int32} : ex 133 62 ls (.int x :: st) h = ex 133 63 (ls.set 3 (.int x)) st h := x_istore_n hc_133 dX8_brings_62 rfl rfl (by decide)
theorem x_133_63 {ls st : List Value} {h : Hp}  : ex 133 63 ls (st) h = gN (ldI ls 4) 133 66 ls 4 (1) st h := x_iinc hc_133 dX8_brings_63 rfl (by decide) (by decide)
theorem x_133_66 {ls st : List Value} {h : Hp}  : ex 133 66 ls (st) h = ex 133 5 ls st h := x_goto hc_133 dX8_brings_66 (by decide)
theorem x_133_69 {ls st : List Value} {h : Hp}  : ex 133 69 ls (st) h = gI (ldI ls 3) 133 70 ls st h := x_iload_n hc_133 dX8_brings_69 rfl rfl
theorem x_133_70 {ls st : List Value} {h : Hp}  : ex 133 70 ls (st) h = gI (ldI ls 3) 133 71 ls st h := x_iload_n hc_133 dX8_brings_70 rfl rfl
theorem x_133_71 {ls st : List Value} {h : Hp}  : ex 133 71 ls (st) h = ex 133 72 ls (.int (5) :: st) h := x_iconst hc_133 dX8_brings_71 rfl (by decide)
theorem x_133_72 {ls st : List Value} {h : Hp} {a b : Int32} : ex 133 72 ls (.int b :: .int a :: st) h = ex 133 73 ls (.int (a * b) :: st) h := x_imul hc_133 dX8_brings_72 rfl
theorem x_133_73 {ls st : List Value} {h : Hp}  : ex 133 73 ls (st) h = gA (ldA ls 0) 133 74 ls st h := x_aload_n hc_133 dX8_brings_73 rfl rfl
theorem x_133_74 {ls st : List Value} {h : Hp}  : ex 133 74 ls (st) h = gI (ldI ls 2) 133 75 ls st h := x_iload_n hc_133 dX8_brings_74 rfl rfl
theorem x_133_75 {ls st : List Value} {h : Hp} {k : Nat} {a0 : Int32} : ex 133 75 ls (.int a0 :: .ref k :: st) h = if kd k = 8 ∧ st.length ≤ 4 then gC (ex 134 0 [.ref k, .int a0, .null, .null] [] h) 133 78 ls st else none := x_callV (as := [.int a0]) hc_133 dX8_brings_75 rfl mr_8_274 rfl rfl rfl (by decide) (by decide)
theorem x_133_78 {ls st : List Value} {h : Hp} {a b : Int32} : ex 133 78 ls (.int b :: .int a :: st) h = ex 133 79 ls (.int (a * b) :: st) h := x_imul hc_133 dX8_brings_78 rfl
theorem x_133_79 {ls st : List Value} {h : Hp}  : ex 133 79 ls (st) h = ex 133 81 ls (.int (100) :: st) h := x_bipush hc_133 dX8_brings_79 rfl (by decide)
theorem x_133_81 {ls st : List Value} {h : Hp} {a b : Int32} : ex 133 81 ls (.int b :: .int a :: st) h = if b = 0 then none else ex 133 82 ls (.int (a / b) :: st) h := x_idiv hc_133 dX8_brings_81 rfl
theorem x_133_82 {ls st : List Value} {h : Hp} {a b : Int32} : ex 133 82 ls (.int b :: .int a :: st) h = ex 133 83 ls (.int (a - b) :: st) h := x_isub hc_133 dX8_brings_82 rfl
theorem x_133_83 {ls : List Value} {h : Hp} {v : Int32} : ex 133 83 ls [.int v] h = some (some (.int v), h) := x_iret hc_133 dX8_brings_83 rfl
theorem x_134_0 {ls st : List Value} {h : Hp}  : ex 134 0 ls (st) h = ex 134 1 ls (.int (0) :: st) h := x_iconst hc_134 dX8_soldLately_0 rfl (by decide)
theorem x_134_1 {ls st : List Value} {h : Hp} {x : Int32} : ex 134 1 ls (.int x :: st) h = ex 134 2 (ls.set 2 (.int x)) st h := x_istore_n hc_134 dX8_soldLately_1 rfl rfl (by decide)
theorem x_134_2 {ls st : List Value} {h : Hp}  : ex 134 2 ls (st) h = ex 134 3 ls (.int (0) :: st) h := x_iconst hc_134 dX8_soldLately_2 rfl (by decide)
theorem x_134_3 {ls st : List Value} {h : Hp} {x : Int32} : ex 134 3 ls (.int x :: st) h = ex 134 4 (ls.set 3 (.int x)) st h := x_istore_n hc_134 dX8_soldLately_3 rfl rfl (by decide)
theorem x_134_4 {ls st : List Value} {h : Hp}  : ex 134 4 ls (st) h = gI (ldI ls 3) 134 5 ls st h := x_iload_n hc_134 dX8_soldLately_4 rfl rfl
theorem x_134_5 {ls st : List Value} {h : Hp}  : ex 134 5 ls (st) h = gA (ldA ls 0) 134 6 ls st h := x_aload_n hc_134 dX8_soldLately_5 rfl rfl
theorem x_134_6 {ls st : List Value} {h : Hp} {k : Nat} : ex 134 6 ls (.ref k :: st) h = if kd k = 8 then ex 134 9 ls (vl h k 38 :: st) h else none := x_getf hc_134 dX8_soldLately_6 rfl fr_8_269
theorem x_134_9 {ls st : List Value} {h : Hp} {x z : Int32} : ex 134 9 ls (.int z :: .int x :: st) h = if x < z then ex 134 12 ls st h else ex 134 47 ls st h := x_icmp_ge hc_134 dX8_soldLately_9 rfl (by decide)
theorem x_134_12 {ls st : List Value} {h : Hp}  : ex 134 12 ls (st) h = gA (ldA ls 0) 134 13 ls st h := x_aload_n hc_134 dX8_soldLately_12 rfl rfl
theorem x_134_13 {ls st : List Value} {h : Hp} {k : Nat} : ex 134 13 ls (.ref k :: st) h = if kd k = 8 then ex 134 16 ls (vl h k 36 :: st) h else none := x_getf hc_134 dX8_soldLately_13 rfl fr_8_96
theorem x_134_16 {ls st : List Value} {h : Hp}  : ex 134 16 ls (st) h = gI (ldI ls 3) 134 17 ls st h := x_iload_n hc_134 dX8_soldLately_16 rfl rfl
theorem x_134_17 {ls st : List Value} {h : Hp} {k : Nat} {x : Int32} : ex 134 17 ls (.int x :: .ref k :: st) h = if kd k = 9 ∧ x.toNatClampNeg < ln k ∧ 0 ≤ x then ex 134 18 ls (.int (h k x.toNatClampNeg) :: st) h else none := x_iald hc_134 dX8_soldLately_17 rfl
theorem x_134_18 {ls st : List Value} {h : Hp}  : ex 134 18 ls (st) h = gI (ldI ls 1) 134 19 ls st h := x_iload_n hc_134 dX8_soldLately_18 rfl rfl
theorem x_134_19 {ls st : List Value} {h : Hp} {x z : Int32} : ex 134 19 ls (.int z :: .int x :: st) h = if x = z then ex 134 22 ls st h else ex 134 41 ls st h := x_icmp_ne hc_134 dX8_soldLately_19 rfl (by decide)
theorem x_134_22 {ls st : List Value} {h : Hp}  : ex 134 22 ls (st) h = gA (ldA ls 0) 134 23 ls st h := x_aload_n hc_134 dX8_soldLately_22 rfl rfl
theorem x_134_23 {ls st : List Value} {h : Hp} {k : Nat} : ex 134 23 ls (.ref k :: st) h = if kd k = 8 then ex 134 26 ls (vl h k 37 :: st) h else none := x_getf hc_134 dX8_soldLately_23 rfl fr_8_99
theorem x_134_26 {ls st : List Value} {h : Hp}  : ex 134 26 ls (st) h = gI (ldI ls 3) 134 27 ls st h := x_iload_n hc_134 dX8_soldLately_26 rfl rfl
theorem x_134_27 {ls st : List Value} {h : Hp} {k : Nat} {x : Int32} : ex 134 27 ls (.int x :: .ref k :: st) h = if kd k = 9 ∧ x.toNatClampNeg < ln k ∧ 0 ≤ x then ex 134 28 ls (.int (h k x.toNatClampNeg) :: st) h else none := x_iald hc_134 dX8_soldLately_27 rfl
theorem x_134_28 {ls st : List Value} {h : Hp}  : ex 134 28 ls (st) h = gA (ldA ls 0) 134 29 ls st h := x_aload_n hc_134 dX8_soldLately_28 rfl rfl
theorem x_134_29 {ls st : List Value} {h : Hp} {k : Nat} : ex 134 29 ls (.ref k :: st) h = if kd k = 8 then ex 134 32 ls (vl h k 0 :: st) h else none := x_getf hc_134 dX8_soldLately_29 rfl fr_8_262
theorem x_134_32 {ls st : List Value} {h : Hp}  : ex 134 32 ls (st) h = ex 134 34 ls (.int (24) :: st) h := x_bipush hc_134 dX8_soldLately_32 rfl (by decide)
theorem x_134_34 {ls st : List Value} {h : Hp} {a b : Int32} : ex 134 34 ls (.int b :: .int a :: st) h = ex 134 35 ls (.int (a - b) :: st) h := x_isub hc_134 dX8_soldLately_34 rfl
theorem x_134_35 {ls st : List Value} {h : Hp} {x z : Int32} : ex 134 35 ls (.int z :: .int x :: st) h = if z < x then ex 134 38 ls st h else ex 134 41 ls st h := x_icmp_le hc_134 dX8_soldLately_35 rfl (by decide)
theorem x_134_38 {ls st : List Value} {h : Hp}  : ex 134 38 ls (st) h = gN (ldI ls 2) 134 41 ls 2 (1) st h := x_iinc hc_134 dX8_soldLately_38 rfl (by decide) (by decide)
theorem x_134_41 {ls st : List Value} {h : Hp}  : ex 134 41 ls (st) h = gN (ldI ls 3) 134 44 ls 3 (1) st h := x_iinc hc_134 dX8_soldLately_41 rfl (by decide) (by decide)
theorem x_134_44 {ls st : List Value} {h : Hp}  : ex 134 44 ls (st) h = ex 134 4 ls st h := x_goto hc_134 dX8_soldLately_44 (by decide)
theorem x_134_47 {ls st : List Value} {h : Hp}  : ex 134 47 ls (st) h = gI (ldI ls 2) 134 48 ls st h := x_iload_n hc_134 dX8_soldLately_47 rfl rfl
theorem x_134_48 {ls st : List Value} {h : Hp}  : ex 134 48 ls (st) h = ex 134 50 ls (.int (20) :: st) h := x_bipush hc_134 dX8_soldLately_48 rfl (by decide)
theorem x_134_50 {ls st : List Value} {h : Hp} {x z : Int32} : ex 134 50 ls (.int z :: .int x :: st) h = if z < x then ex 134 53 ls st h else ex 134 58 ls st h := x_icmp_le hc_134 dX8_soldLately_50 rfl (by decide)
theorem x_134_53 {ls st : List Value} {h : Hp}  : ex 134 53 ls (st) h = ex 134 55 ls (.int (20) :: st) h := x_bipush hc_134 dX8_soldLately_53 rfl (by decide)
theorem x_134_55 {ls st : List Value} {h : Hp}  : ex 134 55 ls (st) h = ex 134 59 ls st h := x_goto hc_134 dX8_soldLately_55 (by decide)
theorem x_134_58 {ls st : List Value} {h : Hp}  : ex 134 58 ls (st) h = gI (ldI ls 2) 134 59 ls st h := x_iload_n hc_134 dX8_soldLately_58 rfl rfl
theorem x_134_59 {ls : List Value} {h : Hp} {v : Int32} : ex 134 59 ls [.int v] h = some (some (.int v), h) := x_iret hc_134 dX8_soldLately_59 rfl
theorem x_135_0 {ls st : List Value} {h : Hp}  : ex 135 0 ls (st) h = gA (ldA ls 0) 135 1 ls st h := x_aload_n hc_135 dX8_worth_0 rfl rfl
theorem x_135_1 {ls st : List Value} {h : Hp}  : ex 135 1 ls (st) h = gI (ldI ls 1) 135 2 ls st h := x_iload_n hc_135 dX8_worth_1 rfl rfl
theorem x_135_2 {ls st : List Value} {h : Hp} {k : Nat} {a0 : Int32} : ex 135 2 ls (.int a0 :: .ref k :: st) h = if kd k = 8 ∧ st.length ≤ 4 then gC (ex 105 0 [.ref k, .int a0] [] h) 135 5 ls st else none := x_callV (as := [.int a0]) hc_135 dX8_worth_2 rfl mr_8_168 rfl rfl rfl (by decide) (by decide)
theorem x_135_5 {ls st : List Value} {h : Hp} {x : Int32} : ex 135 5 ls (.int x :: st) h = if x = 0 then ex 135 16 ls st h else ex 135 8 ls st h := x_if_eq hc_135 dX8_worth_5 rfl (by decide)
theorem x_135_8 {ls st : List Value} {h : Hp}  : ex 135 8 ls (st) h = gA (ldA ls 0) 135 9 ls st h := x_aload_n hc_135 dX8_worth_8 rfl rfl
theorem x_135_9 {ls st : List Value} {h : Hp}  : ex 135 9 ls (st) h = gI (ldI ls 2) 135 10 ls st h := x_iload_n hc_135 dX8_worth_9 rfl rfl
theorem x_135_10 {ls st : List Value} {h : Hp} {k : Nat} {a0 : Int32} : ex 135 10 ls (.int a0 :: .ref k :: st) h = if kd k = 8 ∧ st.length ≤ 4 then gC (ex 94 0 [.ref k, .int a0] [] h) 135 13 ls st else none := x_callV (as := [.int a0]) hc_135 dX8_worth_10 rfl mr_8_152 rfl rfl rfl (by decide) (by decide)
theorem x_135_13 {ls st : List Value} {h : Hp} {x : Int32} : ex 135 13 ls (.int x :: st) h = if x = 0 then ex 135 16 ls st h else ex 135 23 ls st h := x_if_ne hc_135 dX8_worth_13 rfl (by decide)
theorem x_135_16 {ls st : List Value} {h : Hp}  : ex 135 16 ls (st) h = gA (ldA ls 0) 135 17 ls st h := x_aload_n hc_135 dX8_worth_16 rfl rfl
theorem x_135_17 {ls st : List Value} {h : Hp}  : ex 135 17 ls (st) h = ex 135 19 ls (.int (-3) :: st) h := x_bipush hc_135 dX8_worth_17 rfl (by decide)
theorem x_135_19 {ls st : List Value} {h : Hp} {k : Nat} {a0 : Int32} : ex 135 19 ls (.int a0 :: .ref k :: st) h = if kd k = 8 ∧ st.length ≤ 4 then gC (ex 92 0 [.ref k, .int a0] [] h) 135 22 ls st else none := x_callV (as := [.int a0]) hc_135 dX8_worth_19 rfl mr_8_148 rfl rfl rfl (by decide) (by decide)
theorem x_135_22 {ls : List Value} {h : Hp} {v : Int32} : ex 135 22 ls [.int v] h = some (some (.int v), h) := x_iret hc_135 dX8_worth_22 rfl
theorem x_135_23 {ls st : List Value} {h : Hp}  : ex 135 23 ls (st) h = gA (ldA ls 0) 135 24 ls st h := x_aload_n hc_135 dX8_worth_23 rfl rfl
theorem x_135_24 {ls st : List Value} {h : Hp}  : ex 135 24 ls (st) h = gI (ldI ls 1) 135 25 ls st h := x_iload_n hc_135 dX8_worth_24 rfl rfl
theorem x_135_25 {ls st : List Value} {h : Hp}  : ex 135 25 ls (st) h = gI (ldI ls 2) 135 26 ls st h := x_iload_n hc_135 dX8_worth_25 rfl rfl
theorem x_135_26 {ls st : List Value} {h : Hp} {k : Nat} {a0 : Int32} {a1 : Int32} : ex 135 26 ls (.int a1 :: .int a0 :: .ref k :: st) h = if kd k = 8 ∧ st.length ≤ 4 then gC (ex 136 0 [.ref k, .int a0, .int a1] [] h) 135 29 ls st else none := x_callV (as := [.int a0, .int a1]) hc_135 dX8_worth_26 rfl mr_8_286 rfl rfl rfl (by decide) (by decide)
theorem x_135_29 {ls st : List Value} {h : Hp} {x : Int32} : ex 135 29 ls (.int x :: st) h = if x = 0 then ex 135 41 ls st h else ex 135 32 ls st h := x_if_eq hc_135 dX8_worth_29 rfl (by decide)
theorem x_135_32 {ls st : List Value} {h : Hp}  : ex 135 32 ls (st) h = gA (ldA ls 0) 135 33 ls st h := x_aload_n hc_135 dX8_worth_32 rfl rfl
theorem x_135_33 {ls st : List Value} {h : Hp}  : ex 135 33 ls (st) h = gI (ldI ls 1) 135 34 ls st h := x_iload_n hc_135 dX8_worth_33 rfl rfl
theorem x_135_34 {ls st : List Value} {h : Hp}  : ex 135 34 ls (st) h = gI (ldI ls 2) 135 35 ls st h := x_iload_n hc_135 dX8_worth_34 rfl rfl
theorem x_135_35 {ls st : List Value} {h : Hp} {k : Nat} {a0 : Int32} {a1 : Int32} : ex 135 35 ls (.int a1 :: .int a0 :: .ref k :: st) h = if kd k = 8 ∧ st.length ≤ 4 then gC (ex 137 0 [.ref k, .int a0, .int a1, .null, .null, .null, .null, .null, .null] [] h) 135 38 ls st else none := x_callV (as := [.int a0, .int a1]) hc_135 dX8_worth_35 rfl mr_8_289 rfl rfl rfl (by decide) (by decide)
theorem x_135_38 {ls st : List Value} {h : Hp}  : ex 135 38 ls (st) h = ex 135 47 ls st h := x_goto hc_135 dX8_worth_38 (by decide)
theorem x_135_41 {ls st : List Value} {h : Hp}  : ex 135 41 ls (st) h = gA (ldA ls 0) 135 42 ls st h := x_aload_n hc_135 dX8_worth_41 rfl rfl
theorem x_135_42 {ls st : List Value} {h : Hp}  : ex 135 42 ls (st) h = ex 135 44 ls (.int (-7) :: st) h := x_bipush hc_135 dX8_worth_42 rfl (by decide)
theorem x_135_44 {ls st : List Value} {h : Hp} {k : Nat} {a0 : Int32} : ex 135 44 ls (.int a0 :: .ref k :: st) h = if kd k = 8 ∧ st.length ≤ 4 then gC (ex 92 0 [.ref k, .int a0] [] h) 135 47 ls st else none := x_callV (as := [.int a0]) hc_135 dX8_worth_44 rfl mr_8_148 rfl rfl rfl (by decide) (by decide)
theorem x_135_47 {ls : List Value} {h : Hp} {v : Int32} : ex 135 47 ls [.int v] h = some (some (.int v), h) := x_iret hc_135 dX8_worth_47 rfl
theorem x_136_0 {ls st : List Value} {h : Hp}  : ex 136 0 ls (st) h = gA (ldA ls 0) 136 1 ls st h := x_aload_n hc_136 dX8_mayTry_0 rfl rfl
theorem x_136_1 {ls st : List Value} {h : Hp} {k : Nat} : ex 136 1 ls (.ref k :: st) h = if kd k = 8 then ex 136 4 ls (vl h k 12 :: st) h else none := x_getf hc_136 dX8_mayTry_1 rfl fr_8_23
theorem x_136_4 {ls st : List Value} {h : Hp}  : ex 136 4 ls (st) h = gI (ldI ls 2) 136 5 ls st h := x_iload_n hc_136 dX8_mayTry_4 rfl rfl
theorem x_136_5 {ls st : List Value} {h : Hp} {k : Nat} {x : Int32} : ex 136 5 ls (.int x :: .ref k :: st) h = if kd k = 9 ∧ x.toNatClampNeg < ln k ∧ 0 ≤ x then ex 136 6 ls (.int (h k x.toNatClampNeg) :: st) h else none := x_iald hc_136 dX8_mayTry_5 rfl
theorem x_136_6 {ls st : List Value} {h : Hp} {x : Int32} : ex 136 6 ls (.int x :: st) h = if x = 0 then ex 136 9 ls st h else ex 136 11 ls st h := x_if_ne hc_136 dX8_mayTry_6 rfl (by decide)
theorem x_136_9 {ls st : List Value} {h : Hp}  : ex 136 9 ls (st) h = ex 136 10 ls (.int (0) :: st) h := x_iconst hc_136 dX8_mayTry_9 rfl (by decide)
theorem x_136_10 {ls : List Value} {h : Hp} {v : Int32} : ex 136 10 ls [.int v] h = if v = 0 ∨ v = 1 then some (some (.int v), h) else none := x_zret hc_136 dX8_mayTry_10 rfl
theorem x_136_11 {ls st : List Value} {h : Hp}  : ex 136 11 ls (st) h = gA (ldA ls 0) 136 12 ls st h := x_aload_n hc_136 dX8_mayTry_11 rfl rfl
theorem x_136_12 {ls st : List Value} {h : Hp} {k : Nat} : ex 136 12 ls (.ref k :: st) h = if kd k = 8 then ex 136 15 ls (vl h k 23 :: st) h else none := x_getf hc_136 dX8_mayTry_12 rfl fr_8_56
theorem x_136_15 {ls st : List Value} {h : Hp}  : ex 136 15 ls (st) h = gI (ldI ls 1) 136 16 ls st h := x_iload_n hc_136 dX8_mayTry_15 rfl rfl
theorem x_136_16 {ls st : List Value} {h : Hp} {k : Nat} {x : Int32} : ex 136 16 ls (.int x :: .ref k :: st) h = if kd k = 9 ∧ x.toNatClampNeg < ln k ∧ 0 ≤ x then ex 136 17 ls (.int (h k x.toNatClampNeg) :: st) h else none := x_iald hc_136 dX8_mayTry_16 rfl
theorem x_136_17 {ls st : List Value} {h : Hp}  : ex 136 17 ls (st) h = ex 136 18 ls (.int (-1) :: st) h := x_iconst hc_136 dX8_mayTry_17 rfl (by decide)
theorem x_136_18 {ls st : List Value} {h : Hp} {x z : Int32} : ex 136 18 ls (.int z :: .int x :: st) h = if x = z then ex 136 21 ls st h else ex 136 39 ls st h := x_icmp_ne hc_136 dX8_mayTry_18 rfl (by decide)
theorem x_136_21 {ls st : List Value} {h : Hp}  : ex 136 21 ls (st) h = gA (ldA ls 0) 136 22 ls st h := x_aload_n hc_136 dX8_mayTry_21 rfl rfl
theorem x_136_22 {ls st : List Value} {h : Hp} {k : Nat} : ex 136 22 ls (.ref k :: st) h = if kd k = 8 then ex 136 25 ls (vl h k 20 :: st) h else none := x_getf hc_136 dX8_mayTry_22 rfl fr_8_47
theorem x_136_25 {ls st : List Value} {h : Hp}  : ex 136 25 ls (st) h = gI (ldI ls 1) 136 26 ls st h := x_iload_n hc_136 dX8_mayTry_25 rfl rfl
theorem x_136_26 {ls st : List Value} {h : Hp} {k : Nat} {x : Int32} : ex 136 26 ls (.int x :: .ref k :: st) h = if kd k = 9 ∧ x.toNatClampNeg < ln k ∧ 0 ≤ x then ex 136 27 ls (.int (h k x.toNatClampNeg) :: st) h else none := x_iald hc_136 dX8_mayTry_26 rfl
theorem x_136_27 {ls st : List Value} {h : Hp}  : ex 136 27 ls (st) h = gI (ldI ls 2) 136 28 ls st h := x_iload_n hc_136 dX8_mayTry_27 rfl rfl
theorem x_136_28 {ls st : List Value} {h : Hp} {x z : Int32} : ex 136 28 ls (.int z :: .int x :: st) h = if x = z then ex 136 35 ls st h else ex 136 31 ls st h := x_icmp_eq hc_136 dX8_mayTry_28 rfl (by decide)
theorem x_136_31 {ls st : List Value} {h : Hp}  : ex 136 31 ls (st) h = ex 136 32 ls (.int (1) :: st) h := x_iconst hc_136 dX8_mayTry_31 rfl (by decide)
theorem x_136_32 {ls st : List Value} {h : Hp}  : ex 136 32 ls (st) h = ex 136 45 ls st h := x_goto hc_136 dX8_mayTry_32 (by decide)
theorem x_136_35 {ls st : List Value} {h : Hp}  : ex 136 35 ls (st) h = ex 136 36 ls (.int (0) :: st) h := x_iconst hc_136 dX8_mayTry_35 rfl (by decide)
theorem x_136_36 {ls st : List Value} {h : Hp}  : ex 136 36 ls (st) h = ex 136 45 ls st h := x_goto hc_136 dX8_mayTry_36 (by decide)
theorem x_136_39 {ls st : List Value} {h : Hp}  : ex 136 39 ls (st) h = gA (ldA ls 0) 136 40 ls st h := x_aload_n hc_136 dX8_mayTry_39 rfl rfl
theorem x_136_40 {ls st : List Value} {h : Hp}  : ex 136 40 ls (st) h = gI (ldI ls 1) 136 41 ls st h := x_iload_n hc_136 dX8_mayTry_40 rfl rfl
theorem x_136_41 {ls st : List Value} {h : Hp}  : ex 136 41 ls (st) h = gI (ldI ls 2) 136 42 ls st h := x_iload_n hc_136 dX8_mayTry_41 rfl rfl
theorem x_136_42 {ls st : List Value} {h : Hp} {k : Nat} {a0 : Int32} {a1 : Int32} : ex 136 42 ls (.int a1 :: .int a0 :: .ref k :: st) h = if kd k = 8 ∧ st.length ≤ 4 then gC (ex 113 0 [.ref k, .int a0, .int a1] [] h) 136 45 ls st else none := x_callV (as := [.int a0, .int a1]) hc_136 dX8_mayTry_42 rfl mr_8_181 rfl rfl rfl (by decide) (by decide)
theorem x_136_45 {ls : List Value} {h : Hp} {v : Int32} : ex 136 45 ls [.int v] h = if v = 0 ∨ v = 1 then some (some (.int v), h) else none := x_zret hc_136 dX8_mayTry_45 rfl
theorem x_137_0 {ls st : List Value} {h : Hp}  : ex 137 0 ls (st) h = ex 137 2 ls (.int (10) :: st) h := x_bipush hc_137 dX8_tried_0 rfl (by decide)
theorem x_137_2 {ls st : List Value} {h : Hp} {x : Int32} : ex 137 2 ls (.int x :: st) h = ex 137 3 (ls.set 3 (.int x)) st h := x_istore_n hc_137 dX8_tried_2 rfl rfl (by decide)
theorem x_137_3 {ls st : List Value} {h : Hp}  : ex 137 3 ls (st) h = gA (ldA ls 0) 137 4 ls st h := x_aload_n hc_137 dX8_tried_3 rfl rfl
theorem x_137_4 {ls st : List Value} {h : Hp} {k : Nat} : ex 137 4 ls (.ref k :: st) h = if kd k = 8 then ex 137 7 ls (vl h k 17 :: st) h else none := x_getf hc_137 dX8_tried_4 rfl fr_8_38
theorem x_137_7 {ls st : List Value} {h : Hp}  : ex 137 7 ls (st) h = gI (ldI ls 3) 137 8 ls st h := x_iload_n hc_137 dX8_tried_7 rfl rfl
theorem x_137_8 {ls st : List Value} {h : Hp}  : ex 137 8 ls (st) h = gA (ldA ls 0) 137 9 ls st h := x_aload_n hc_137 dX8_tried_8 rfl rfl
theorem x_137_9 {ls st : List Value} {h : Hp} {k : Nat} : ex 137 9 ls (.ref k :: st) h = if kd k = 8 then ex 137 12 ls (vl h k 17 :: st) h else none := x_getf hc_137 dX8_tried_9 rfl fr_8_38
theorem x_137_12 {ls st : List Value} {h : Hp}  : ex 137 12 ls (st) h = gI (ldI ls 1) 137 13 ls st h := x_iload_n hc_137 dX8_tried_12 rfl rfl
theorem x_137_13 {ls st : List Value} {h : Hp} {k : Nat} {x : Int32} : ex 137 13 ls (.int x :: .ref k :: st) h = if kd k = 9 ∧ x.toNatClampNeg < ln k ∧ 0 ≤ x then ex 137 14 ls (.int (h k x.toNatClampNeg) :: st) h else none := x_iald hc_137 dX8_tried_13 rfl
theorem x_137_14 {ls st : List Value} {h : Hp} {k : Nat} {x u : Int32} : ex 137 14 ls (.int u :: .int x :: .ref k :: st) h = if kd k = 9 ∧ x.toNatClampNeg < ln k ∧ 0 ≤ x then ex 137 15 ls st (hu h k x.toNatClampNeg u) else none := x_iast hc_137 dX8_tried_14 rfl
theorem x_137_15 {ls st : List Value} {h : Hp}  : ex 137 15 ls (st) h = gA (ldA ls 0) 137 16 ls st h := x_aload_n hc_137 dX8_tried_15 rfl rfl
theorem x_137_16 {ls st : List Value} {h : Hp} {k : Nat} : ex 137 16 ls (.ref k :: st) h = if kd k = 8 then ex 137 19 ls (vl h k 18 :: st) h else none := x_getf hc_137 dX8_tried_16 rfl fr_8_41
theorem x_137_19 {ls st : List Value} {h : Hp}  : ex 137 19 ls (st) h = gI (ldI ls 3) 137 20 ls st h := x_iload_n hc_137 dX8_tried_19 rfl rfl
theorem x_137_20 {ls st : List Value} {h : Hp}  : ex 137 20 ls (st) h = gA (ldA ls 0) 137 21 ls st h := x_aload_n hc_137 dX8_tried_20 rfl rfl
theorem x_137_21 {ls st : List Value} {h : Hp} {k : Nat} : ex 137 21 ls (.ref k :: st) h = if kd k = 8 then ex 137 24 ls (vl h k 18 :: st) h else none := x_getf hc_137 dX8_tried_21 rfl fr_8_41
theorem x_137_24 {ls st : List Value} {h : Hp}  : ex 137 24 ls (st) h = gI (ldI ls 1) 137 25 ls st h := x_iload_n hc_137 dX8_tried_24 rfl rfl
theorem x_137_25 {ls st : List Value} {h : Hp} {k : Nat} {x : Int32} : ex 137 25 ls (.int x :: .ref k :: st) h = if kd k = 9 ∧ x.toNatClampNeg < ln k ∧ 0 ≤ x then ex 137 26 ls (.int (h k x.toNatClampNeg) :: st) h else none := x_iald hc_137 dX8_tried_25 rfl
theorem x_137_26 {ls st : List Value} {h : Hp} {k : Nat} {x u : Int32} : ex 137 26 ls (.int u :: .int x :: .ref k :: st) h = if kd k = 9 ∧ x.toNatClampNeg < ln k ∧ 0 ≤ x then ex 137 27 ls st (hu h k x.toNatClampNeg u) else none := x_iast hc_137 dX8_tried_26 rfl
theorem x_137_27 {ls st : List Value} {h : Hp}  : ex 137 27 ls (st) h = gA (ldA ls 0) 137 28 ls st h := x_aload_n hc_137 dX8_tried_27 rfl rfl
theorem x_137_28 {ls st : List Value} {h : Hp} {k : Nat} : ex 137 28 ls (.ref k :: st) h = if kd k = 8 then ex 137 31 ls (vl h k 19 :: st) h else none := x_getf hc_137 dX8_tried_28 rfl fr_8_44
theorem x_137_31 {ls st : List Value} {h : Hp}  : ex 137 31 ls (st) h = gI (ldI ls 3) 137 32 ls st h := x_iload_n hc_137 dX8_tried_31 rfl rfl
theorem x_137_32 {ls st : List Value} {h : Hp}  : ex 137 32 ls (st) h = gA (ldA ls 0) 137 33 ls st h := x_aload_n hc_137 dX8_tried_32 rfl rfl
theorem x_137_33 {ls st : List Value} {h : Hp} {k : Nat} : ex 137 33 ls (.ref k :: st) h = if kd k = 8 then ex 137 36 ls (vl h k 19 :: st) h else none := x_getf hc_137 dX8_tried_33 rfl fr_8_44
theorem x_137_36 {ls st : List Value} {h : Hp}  : ex 137 36 ls (st) h = gI (ldI ls 1) 137 37 ls st h := x_iload_n hc_137 dX8_tried_36 rfl rfl
theorem x_137_37 {ls st : List Value} {h : Hp} {k : Nat} {x : Int32} : ex 137 37 ls (.int x :: .ref k :: st) h = if kd k = 9 ∧ x.toNatClampNeg < ln k ∧ 0 ≤ x then ex 137 38 ls (.int (h k x.toNatClampNeg) :: st) h else none := x_iald hc_137 dX8_tried_37 rfl
theorem x_137_38 {ls st : List Value} {h : Hp} {k : Nat} {x u : Int32} : ex 137 38 ls (.int u :: .int x :: .ref k :: st) h = if kd k = 9 ∧ x.toNatClampNeg < ln k ∧ 0 ≤ x then ex 137 39 ls st (hu h k x.toNatClampNeg u) else none := x_iast hc_137 dX8_tried_38 rfl
theorem x_137_39 {ls st : List Value} {h : Hp}  : ex 137 39 ls (st) h = gA (ldA ls 0) 137 40 ls st h := x_aload_n hc_137 dX8_tried_39 rfl rfl
theorem x_137_40 {ls st : List Value} {h : Hp} {k : Nat} : ex 137 40 ls (.ref k :: st) h = if kd k = 8 then ex 137 43 ls (vl h k 20 :: st) h else none := x_getf hc_137 dX8_tried_40 rfl fr_8_47
theorem x_137_43 {ls st : List Value} {h : Hp}  : ex 137 43 ls (st) h = gI (ldI ls 3) 137 44 ls st h := x_iload_n hc_137 dX8_tried_43 rfl rfl
theorem x_137_44 {ls st : List Value} {h : Hp}  : ex 137 44 ls (st) h = gA (ldA ls 0) 137 45 ls st h := x_aload_n hc_137 dX8_tried_44 rfl rfl
theorem x_137_45 {ls st : List Value} {h : Hp} {k : Nat} : ex 137 45 ls (.ref k :: st) h = if kd k = 8 then ex 137 48 ls (vl h k 20 :: st) h else none := x_getf hc_137 dX8_tried_45 rfl fr_8_47
theorem x_137_48 {ls st : List Value} {h : Hp}  : ex 137 48 ls (st) h = gI (ldI ls 1) 137 49 ls st h := x_iload_n hc_137 dX8_tried_48 rfl rfl
theorem x_137_49 {ls st : List Value} {h : Hp} {k : Nat} {x : Int32} : ex 137 49 ls (.int x :: .ref k :: st) h = if kd k = 9 ∧ x.toNatClampNeg < ln k ∧ 0 ≤ x then ex 137 50 ls (.int (h k x.toNatClampNeg) :: st) h else none := x_iald hc_137 dX8_tried_49 rfl
theorem x_137_50 {ls st : List Value} {h : Hp} {k : Nat} {x u : Int32} : ex 137 50 ls (.int u :: .int x :: .ref k :: st) h = if kd k = 9 ∧ x.toNatClampNeg < ln k ∧ 0 ≤ x then ex 137 51 ls st (hu h k x.toNatClampNeg u) else none := x_iast hc_137 dX8_tried_50 rfl
theorem x_137_51 {ls st : List Value} {h : Hp}  : ex 137 51 ls (st) h = gA (ldA ls 0) 137 52 ls st h := x_aload_n hc_137 dX8_tried_51 rfl rfl
theorem x_137_52 {ls st : List Value} {h : Hp} {k : Nat} : ex 137 52 ls (.ref k :: st) h = if kd k = 8 then ex 137 55 ls (vl h k 21 :: st) h else none := x_getf hc_137 dX8_tried_52 rfl fr_8_50
theorem x_137_55 {ls st : List Value} {h : Hp}  : ex 137 55 ls (st) h = gI (ldI ls 3) 137 56 ls st h := x_iload_n hc_137 dX8_tried_55 rfl rfl
theorem x_137_56 {ls st : List Value} {h : Hp}  : ex 137 56 ls (st) h = gA (ldA ls 0) 137 57 ls st h := x_aload_n hc_137 dX8_tried_56 rfl rfl
theorem x_137_57 {ls st : List Value} {h : Hp} {k : Nat} : ex 137 57 ls (.ref k :: st) h = if kd k = 8 then ex 137 60 ls (vl h k 21 :: st) h else none := x_getf hc_137 dX8_tried_57 rfl fr_8_50
theorem x_137_60 {ls st : List Value} {h : Hp}  : ex 137 60 ls (st) h = gI (ldI ls 1) 137 61 ls st h := x_iload_n hc_137 dX8_tried_60 rfl rfl
theorem x_137_61 {ls st : List Value} {h : Hp} {k : Nat} {x : Int32} : ex 137 61 ls (.int x :: .ref k :: st) h = if kd k = 9 ∧ x.toNatClampNeg < ln k ∧ 0 ≤ x then ex 137 62 ls (.int (h k x.toNatClampNeg) :: st) h else none := x_iald hc_137 dX8_tried_61 rfl
theorem x_137_62 {ls st : List Value} {h : Hp} {k : Nat} {x u : Int32} : ex 137 62 ls (.int u :: .int x :: .ref k :: st) h = if kd k = 9 ∧ x.toNatClampNeg < ln k ∧ 0 ≤ x then ex 137 63 ls st (hu h k x.toNatClampNeg u) else none := x_iast hc_137 dX8_tried_62 rfl
theorem x_137_63 {ls st : List Value} {h : Hp}  : ex 137 63 ls (st) h = gA (ldA ls 0) 137 64 ls st h := x_aload_n hc_137 dX8_tried_63 rfl rfl
theorem x_137_64 {ls st : List Value} {h : Hp} {k : Nat} : ex 137 64 ls (.ref k :: st) h = if kd k = 8 then ex 137 67 ls (vl h k 22 :: st) h else none := x_getf hc_137 dX8_tried_64 rfl fr_8_53
theorem x_137_67 {ls st : List Value} {h : Hp}  : ex 137 67 ls (st) h = gI (ldI ls 3) 137 68 ls st h := x_iload_n hc_137 dX8_tried_67 rfl rfl
theorem x_137_68 {ls st : List Value} {h : Hp}  : ex 137 68 ls (st) h = gA (ldA ls 0) 137 69 ls st h := x_aload_n hc_137 dX8_tried_68 rfl rfl
theorem x_137_69 {ls st : List Value} {h : Hp} {k : Nat} : ex 137 69 ls (.ref k :: st) h = if kd k = 8 then ex 137 72 ls (vl h k 22 :: st) h else none := x_getf hc_137 dX8_tried_69 rfl fr_8_53
theorem x_137_72 {ls st : List Value} {h : Hp}  : ex 137 72 ls (st) h = gI (ldI ls 1) 137 73 ls st h := x_iload_n hc_137 dX8_tried_72 rfl rfl
theorem x_137_73 {ls st : List Value} {h : Hp} {k : Nat} {x : Int32} : ex 137 73 ls (.int x :: .ref k :: st) h = if kd k = 9 ∧ x.toNatClampNeg < ln k ∧ 0 ≤ x then ex 137 74 ls (.int (h k x.toNatClampNeg) :: st) h else none := x_iald hc_137 dX8_tried_73 rfl
theorem x_137_74 {ls st : List Value} {h : Hp} {k : Nat} {x u : Int32} : ex 137 74 ls (.int u :: .int x :: .ref k :: st) h = if kd k = 9 ∧ x.toNatClampNeg < ln k ∧ 0 ≤ x then ex 137 75 ls st (hu h k x.toNatClampNeg u) else none := x_iast hc_137 dX8_tried_74 rfl
theorem x_137_75 {ls st : List Value} {h : Hp}  : ex 137 75 ls (st) h = gA (ldA ls 0) 137 76 ls st h := x_aload_n hc_137 dX8_tried_75 rfl rfl
theorem x_137_76 {ls st : List Value} {h : Hp} {k : Nat} : ex 137 76 ls (.ref k :: st) h = if kd k = 8 then ex 137 79 ls (vl h k 23 :: st) h else none := x_getf hc_137 dX8_tried_76 rfl fr_8_56
theorem x_137_79 {ls st : List Value} {h : Hp}  : ex 137 79 ls (st) h = gI (ldI ls 3) 137 80 ls st h := x_iload_n hc_137 dX8_tried_79 rfl rfl
theorem x_137_80 {ls st : List Value} {h : Hp}  : ex 137 80 ls (st) h = gA (ldA ls 0) 137 81 ls st h := x_aload_n hc_137 dX8_tried_80 rfl rfl
theorem x_137_81 {ls st : List Value} {h : Hp} {k : Nat} : ex 137 81 ls (.ref k :: st) h = if kd k = 8 then ex 137 84 ls (vl h k 23 :: st) h else none := x_getf hc_137 dX8_tried_81 rfl fr_8_56
theorem x_137_84 {ls st : List Value} {h : Hp}  : ex 137 84 ls (st) h = gI (ldI ls 1) 137 85 ls st h := x_iload_n hc_137 dX8_tried_84 rfl rfl
theorem x_137_85 {ls st : List Value} {h : Hp} {k : Nat} {x : Int32} : ex 137 85 ls (.int x :: .ref k :: st) h = if kd k = 9 ∧ x.toNatClampNeg < ln k ∧ 0 ≤ x then ex 137 86 ls (.int (h k x.toNatClampNeg) :: st) h else none := x_iald hc_137 dX8_tried_85 rfl
theorem x_137_86 {ls st : List Value} {h : Hp} {k : Nat} {x u : Int32} : ex 137 86 ls (.int u :: .int x :: .ref k :: st) h = if kd k = 9 ∧ x.toNatClampNeg < ln k ∧ 0 ≤ x then ex 137 87 ls st (hu h k x.toNatClampNeg u) else none := x_iast hc_137 dX8_tried_86 rfl
theorem x_137_87 {ls st : List Value} {h : Hp}  : ex 137 87 ls (st) h = gA (ldA ls 0) 137 88 ls st h := x_aload_n hc_137 dX8_tried_87 rfl rfl
theorem x_137_88 {ls st : List Value} {h : Hp} {k : Nat} : ex 137 88 ls (.ref k :: st) h = if kd k = 8 then ex 137 91 ls (vl h k 24 :: st) h else none := x_getf hc_137 dX8_tried_88 rfl fr_8_59
theorem x_137_91 {ls st : List Value} {h : Hp}  : ex 137 91 ls (st) h = gI (ldI ls 3) 137 92 ls st h := x_iload_n hc_137 dX8_tried_91 rfl rfl
theorem x_137_92 {ls st : List Value} {h : Hp}  : ex 137 92 ls (st) h = gA (ldA ls 0) 137 93 ls st h := x_aload_n hc_137 dX8_tried_92 rfl rfl
theorem x_137_93 {ls st : List Value} {h : Hp} {k : Nat} : ex 137 93 ls (.ref k :: st) h = if kd k = 8 then ex 137 96 ls (vl h k 24 :: st) h else none := x_getf hc_137 dX8_tried_93 rfl fr_8_59
theorem x_137_96 {ls st : List Value} {h : Hp}  : ex 137 96 ls (st) h = gI (ldI ls 1) 137 97 ls st h := x_iload_n hc_137 dX8_tried_96 rfl rfl
theorem x_137_97 {ls st : List Value} {h : Hp} {k : Nat} {x : Int32} : ex 137 97 ls (.int x :: .ref k :: st) h = if kd k = 9 ∧ x.toNatClampNeg < ln k ∧ 0 ≤ x then ex 137 98 ls (.int (h k x.toNatClampNeg) :: st) h else none := x_iald hc_137 dX8_tried_97 rfl
theorem x_137_98 {ls st : List Value} {h : Hp} {k : Nat} {x u : Int32} : ex 137 98 ls (.int u :: .int x :: .ref k :: st) h = if kd k = 9 ∧ x.toNatClampNeg < ln k ∧ 0 ≤ x then ex 137 99 ls st (hu h k x.toNatClampNeg u) else none := x_iast hc_137 dX8_tried_98 rfl
theorem x_137_99 {ls st : List Value} {h : Hp}  : ex 137 99 ls (st) h = gA (ldA ls 0) 137 100 ls st h := x_aload_n hc_137 dX8_tried_99 rfl rfl
theorem x_137_100 {ls st : List Value} {h : Hp} {k : Nat} : ex 137 100 ls (.ref k :: st) h = if kd k = 8 then ex 137 103 ls (vl h k 28 :: st) h else none := x_getf hc_137 dX8_tried_100 rfl fr_8_72
theorem x_137_103 {ls st : List Value} {h : Hp}  : ex 137 103 ls (st) h = gI (ldI ls 3) 137 104 ls st h := x_iload_n hc_137 dX8_tried_103 rfl rfl
theorem x_137_104 {ls st : List Value} {h : Hp}  : ex 137 104 ls (st) h = ex 137 105 ls (.int (0) :: st) h := x_iconst hc_137 dX8_tried_104 rfl (by decide)
theorem x_137_105 {ls st : List Value} {h : Hp} {k : Nat} {x u : Int32} : ex 137 105 ls (.int u :: .int x :: .ref k :: st) h = if (kd k = 10 ∧ x.toNatClampNeg < ln k ∧ 0 ≤ x) ∧ (u = 0 ∨ u = 1) then ex 137 106 ls st (hu h k x.toNatClampNeg u) else none := x_zast hc_137 dX8_tried_105 rfl
theorem x_137_106 {ls st : List Value} {h : Hp}  : ex 137 106 ls (st) h = ex 137 107 ls (.int (0) :: st) h := x_iconst hc_137 dX8_tried_106 rfl (by decide)
theorem x_137_107 {ls st : List Value} {h : Hp} {x : Int32} : ex 137 107 ls (.int x :: st) h = ex 137 109 (ls.set 4 (.int x)) st h := x_istore hc_137 dX8_tried_107 rfl (by decide)
theorem x_137_109 {ls st : List Value} {h : Hp}  : ex 137 109 ls (st) h = gI (ldI ls 4) 137 111 ls st h := x_iload hc_137 dX8_tried_109 rfl
theorem x_137_111 {ls st : List Value} {h : Hp}  : ex 137 111 ls (st) h = ex 137 112 ls (.int (4) :: st) h := x_iconst hc_137 dX8_tried_111 rfl (by decide)
theorem x_137_112 {ls st : List Value} {h : Hp} {x z : Int32} : ex 137 112 ls (.int z :: .int x :: st) h = if x < z then ex 137 115 ls st h else ex 137 247 ls st h := x_icmp_ge hc_137 dX8_tried_112 rfl (by decide)
theorem x_137_115 {ls st : List Value} {h : Hp}  : ex 137 115 ls (st) h = gA (ldA ls 0) 137 116 ls st h := x_aload_n hc_137 dX8_tried_115 rfl rfl
theorem x_137_116 {ls st : List Value} {h : Hp} {k : Nat} : ex 137 116 ls (.ref k :: st) h = if kd k = 8 then ex 137 119 ls (vl h k 30 :: st) h else none := x_getf hc_137 dX8_tried_116 rfl fr_8_78
theorem x_137_119 {ls st : List Value} {h : Hp}  : ex 137 119 ls (st) h = ex 137 121 ls (.int (40) :: st) h := x_bipush hc_137 dX8_tried_119 rfl (by decide)
theorem x_137_121 {ls st : List Value} {h : Hp}  : ex 137 121 ls (st) h = gI (ldI ls 4) 137 123 ls st h := x_iload hc_137 dX8_tried_121 rfl
theorem x_137_123 {ls st : List Value} {h : Hp} {a b : Int32} : ex 137 123 ls (.int b :: .int a :: st) h = ex 137 124 ls (.int (a + b) :: st) h := x_iadd hc_137 dX8_tried_123 rfl
theorem x_137_124 {ls st : List Value} {h : Hp}  : ex 137 124 ls (st) h = gA (ldA ls 0) 137 125 ls st h := x_aload_n hc_137 dX8_tried_124 rfl rfl
theorem x_137_125 {ls st : List Value} {h : Hp} {k : Nat} : ex 137 125 ls (.ref k :: st) h = if kd k = 8 then ex 137 128 ls (vl h k 30 :: st) h else none := x_getf hc_137 dX8_tried_125 rfl fr_8_78
theorem x_137_128 {ls st : List Value} {h : Hp}  : ex 137 128 ls (st) h = ex 137 129 ls (.int (4) :: st) h := x_iconst hc_137 dX8_tried_128 rfl (by decide)
theorem x_137_129 {ls st : List Value} {h : Hp}  : ex 137 129 ls (st) h = gI (ldI ls 1) 137 130 ls st h := x_iload_n hc_137 dX8_tried_129 rfl rfl
theorem x_137_130 {ls st : List Value} {h : Hp} {a b : Int32} : ex 137 130 ls (.int b :: .int a :: st) h = ex 137 131 ls (.int (a * b) :: st) h := x_imul hc_137 dX8_tried_130 rfl
theorem x_137_131 {ls st : List Value} {h : Hp}  : ex 137 131 ls (st) h = gI (ldI ls 4) 137 133 ls st h := x_iload hc_137 dX8_tried_131 rfl
theorem x_137_133 {ls st : List Value} {h : Hp} {a b : Int32} : ex 137 133 ls (.int b :: .int a :: st) h = ex 137 134 ls (.int (a + b) :: st) h := x_iadd hc_137 dX8_tried_133 rfl
theorem x_137_134 {ls st : List Value} {h : Hp} {k : Nat} {x : Int32} : ex 137 134 ls (.int x :: .ref k :: st) h = if kd k = 9 ∧ x.toNatClampNeg < ln k ∧ 0 ≤ x then ex 137 135 ls (.int (h k x.toNatClampNeg) :: st) h else none := x_iald hc_137 dX8_tried_134 rfl
theorem x_137_135 {ls st : List Value} {h : Hp} {k : Nat} {x u : Int32} : ex 137 135 ls (.int u :: .int x :: .ref k :: st) h = if kd k = 9 ∧ x.toNatClampNeg < ln k ∧ 0 ≤ x then ex 137 136 ls st (hu h k x.toNatClampNeg u) else none := x_iast hc_137 dX8_tried_135 rfl
theorem x_137_136 {ls st : List Value} {h : Hp}  : ex 137 136 ls (st) h = gA (ldA ls 0) 137 137 ls st h := x_aload_n hc_137 dX8_tried_136 rfl rfl
theorem x_137_137 {ls st : List Value} {h : Hp} {k : Nat} : ex 137 137 ls (.ref k :: st) h = if kd k = 8 then ex 137 140 ls (vl h k 31 :: st) h else none := x_getf hc_137 dX8_tried_137 rfl fr_8_81
theorem x_137_140 {ls st : List Value} {h : Hp}  : ex 137 140 ls (st) h = ex 137 142 ls (.int (40) :: st) h := x_bipush hc_137 dX8_tried_140 rfl (by decide)
theorem x_137_142 {ls st : List Value} {h : Hp}  : ex 137 142 ls (st) h = gI (ldI ls 4) 137 144 ls st h := x_iload hc_137 dX8_tried_142 rfl
theorem x_137_144 {ls st : List Value} {h : Hp} {a b : Int32} : ex 137 144 ls (.int b :: .int a :: st) h = ex 137 145 ls (.int (a + b) :: st) h := x_iadd hc_137 dX8_tried_144 rfl
theorem x_137_145 {ls st : List Value} {h : Hp}  : ex 137 145 ls (st) h = gA (ldA ls 0) 137 146 ls st h := x_aload_n hc_137 dX8_tried_145 rfl rfl
theorem x_137_146 {ls st : List Value} {h : Hp} {k : Nat} : ex 137 146 ls (.ref k :: st) h = if kd k = 8 then ex 137 149 ls (vl h k 31 :: st) h else none := x_getf hc_137 dX8_tried_146 rfl fr_8_81
theorem x_137_149 {ls st : List Value} {h : Hp}  : ex 137 149 ls (st) h = ex 137 150 ls (.int (4) :: st) h := x_iconst hc_137 dX8_tried_149 rfl (by decide)
theorem x_137_150 {ls st : List Value} {h : Hp}  : ex 137 150 ls (st) h = gI (ldI ls 1) 137 151 ls st h := x_iload_n hc_137 dX8_tried_150 rfl rfl
theorem x_137_151 {ls st : List Value} {h : Hp} {a b : Int32} : ex 137 151 ls (.int b :: .int a :: st) h = ex 137 152 ls (.int (a * b) :: st) h := x_imul hc_137 dX8_tried_151 rfl
theorem x_137_152 {ls st : List Value} {h : Hp}  : ex 137 152 ls (st) h = gI (ldI ls 4) 137 154 ls st h := x_iload hc_137 dX8_tried_152 rfl
theorem x_137_154 {ls st : List Value} {h : Hp} {a b : Int32} : ex 137 154 ls (.int b :: .int a :: st) h = ex 137 155 ls (.int (a + b) :: st) h := x_iadd hc_137 dX8_tried_154 rfl
theorem x_137_155 {ls st : List Value} {h : Hp} {k : Nat} {x : Int32} : ex 137 155 ls (.int x :: .ref k :: st) h = if kd k = 9 ∧ x.toNatClampNeg < ln k ∧ 0 ≤ x then ex 137 156 ls (.int (h k x.toNatClampNeg) :: st) h else none := x_iald hc_137 dX8_tried_155 rfl
theorem x_137_156 {ls st : List Value} {h : Hp} {k : Nat} {x u : Int32} : ex 137 156 ls (.int u :: .int x :: .ref k :: st) h = if kd k = 9 ∧ x.toNatClampNeg < ln k ∧ 0 ≤ x then ex 137 157 ls st (hu h k x.toNatClampNeg u) else none := x_iast hc_137 dX8_tried_156 rfl
theorem x_137_157 {ls st : List Value} {h : Hp}  : ex 137 157 ls (st) h = gA (ldA ls 0) 137 158 ls st h := x_aload_n hc_137 dX8_tried_157 rfl rfl
theorem x_137_158 {ls st : List Value} {h : Hp} {k : Nat} : ex 137 158 ls (.ref k :: st) h = if kd k = 8 then ex 137 161 ls (vl h k 32 :: st) h else none := x_getf hc_137 dX8_tried_158 rfl fr_8_84
theorem x_137_161 {ls st : List Value} {h : Hp}  : ex 137 161 ls (st) h = ex 137 163 ls (.int (40) :: st) h := x_bipush hc_137 dX8_tried_161 rfl (by decide)
theorem x_137_163 {ls st : List Value} {h : Hp}  : ex 137 163 ls (st) h = gI (ldI ls 4) 137 165 ls st h := x_iload hc_137 dX8_tried_163 rfl
theorem x_137_165 {ls st : List Value} {h : Hp} {a b : Int32} : ex 137 165 ls (.int b :: .int a :: st) h = ex 137 166 ls (.int (a + b) :: st) h := x_iadd hc_137 dX8_tried_165 rfl
theorem x_137_166 {ls st : List Value} {h : Hp}  : ex 137 166 ls (st) h = gA (ldA ls 0) 137 167 ls st h := x_aload_n hc_137 dX8_tried_166 rfl rfl
theorem x_137_167 {ls st : List Value} {h : Hp} {k : Nat} : ex 137 167 ls (.ref k :: st) h = if kd k = 8 then ex 137 170 ls (vl h k 32 :: st) h else none := x_getf hc_137 dX8_tried_167 rfl fr_8_84
theorem x_137_170 {ls st : List Value} {h : Hp}  : ex 137 170 ls (st) h = ex 137 171 ls (.int (4) :: st) h := x_iconst hc_137 dX8_tried_170 rfl (by decide)
theorem x_137_171 {ls st : List Value} {h : Hp}  : ex 137 171 ls (st) h = gI (ldI ls 1) 137 172 ls st h := x_iload_n hc_137 dX8_tried_171 rfl rfl
theorem x_137_172 {ls st : List Value} {h : Hp} {a b : Int32} : ex 137 172 ls (.int b :: .int a :: st) h = ex 137 173 ls (.int (a * b) :: st) h := x_imul hc_137 dX8_tried_172 rfl
theorem x_137_173 {ls st : List Value} {h : Hp}  : ex 137 173 ls (st) h = gI (ldI ls 4) 137 175 ls st h := x_iload hc_137 dX8_tried_173 rfl
theorem x_137_175 {ls st : List Value} {h : Hp} {a b : Int32} : ex 137 175 ls (.int b :: .int a :: st) h = ex 137 176 ls (.int (a + b) :: st) h := x_iadd hc_137 dX8_tried_175 rfl
theorem x_137_176 {ls st : List Value} {h : Hp} {k : Nat} {x : Int32} : ex 137 176 ls (.int x :: .ref k :: st) h = if kd k = 9 ∧ x.toNatClampNeg < ln k ∧ 0 ≤ x then ex 137 177 ls (.int (h k x.toNatClampNeg) :: st) h else none := x_iald hc_137 dX8_tried_176 rfl
theorem x_137_177 {ls st : List Value} {h : Hp} {k : Nat} {x u : Int32} : ex 137 177 ls (.int u :: .int x :: .ref k :: st) h = if kd k = 9 ∧ x.toNatClampNeg < ln k ∧ 0 ≤ x then ex 137 178 ls st (hu h k x.toNatClampNeg u) else none := x_iast hc_137 dX8_tried_177 rfl
theorem x_137_178 {ls st : List Value} {h : Hp}  : ex 137 178 ls (st) h = gA (ldA ls 0) 137 179 ls st h := x_aload_n hc_137 dX8_tried_178 rfl rfl
theorem x_137_179 {ls st : List Value} {h : Hp} {k : Nat} : ex 137 179 ls (.ref k :: st) h = if kd k = 8 then ex 137 182 ls (vl h k 33 :: st) h else none := x_getf hc_137 dX8_tried_179 rfl fr_8_87
theorem x_137_182 {ls st : List Value} {h : Hp}  : ex 137 182 ls (st) h = ex 137 184 ls (.int (40) :: st) h := x_bipush hc_137 dX8_tried_182 rfl (by decide)
theorem x_137_184 {ls st : List Value} {h : Hp}  : ex 137 184 ls (st) h = gI (ldI ls 4) 137 186 ls st h := x_iload hc_137 dX8_tried_184 rfl
theorem x_137_186 {ls st : List Value} {h : Hp} {a b : Int32} : ex 137 186 ls (.int b :: .int a :: st) h = ex 137 187 ls (.int (a + b) :: st) h := x_iadd hc_137 dX8_tried_186 rfl
theorem x_137_187 {ls st : List Value} {h : Hp}  : ex 137 187 ls (st) h = gA (ldA ls 0) 137 188 ls st h := x_aload_n hc_137 dX8_tried_187 rfl rfl
theorem x_137_188 {ls st : List Value} {h : Hp} {k : Nat} : ex 137 188 ls (.ref k :: st) h = if kd k = 8 then ex 137 191 ls (vl h k 33 :: st) h else none := x_getf hc_137 dX8_tried_188 rfl fr_8_87
theorem x_137_191 {ls st : List Value} {h : Hp}  : ex 137 191 ls (st) h = ex 137 192 ls (.int (4) :: st) h := x_iconst hc_137 dX8_tried_191 rfl (by decide)
theorem x_137_192 {ls st : List Value} {h : Hp}  : ex 137 192 ls (st) h = gI (ldI ls 1) 137 193 ls st h := x_iload_n hc_137 dX8_tried_192 rfl rfl
theorem x_137_193 {ls st : List Value} {h : Hp} {a b : Int32} : ex 137 193 ls (.int b :: .int a :: st) h = ex 137 194 ls (.int (a * b) :: st) h := x_imul hc_137 dX8_tried_193 rfl
theorem x_137_194 {ls st : List Value} {h : Hp}  : ex 137 194 ls (st) h = gI (ldI ls 4) 137 196 ls st h := x_iload hc_137 dX8_tried_194 rfl
theorem x_137_196 {ls st : List Value} {h : Hp} {a b : Int32} : ex 137 196 ls (.int b :: .int a :: st) h = ex 137 197 ls (.int (a + b) :: st) h := x_iadd hc_137 dX8_tried_196 rfl
theorem x_137_197 {ls st : List Value} {h : Hp} {k : Nat} {x : Int32} : ex 137 197 ls (.int x :: .ref k :: st) h = if kd k = 9 ∧ x.toNatClampNeg < ln k ∧ 0 ≤ x then ex 137 198 ls (.int (h k x.toNatClampNeg) :: st) h else none := x_iald hc_137 dX8_tried_197 rfl
theorem x_137_198 {ls st : List Value} {h : Hp} {k : Nat} {x u : Int32} : ex 137 198 ls (.int u :: .int x :: .ref k :: st) h = if kd k = 9 ∧ x.toNatClampNeg < ln k ∧ 0 ≤ x then ex 137 199 ls st (hu h k x.toNatClampNeg u) else none := x_iast hc_137 dX8_tried_198 rfl
theorem x_137_199 {ls st : List Value} {h : Hp}  : ex 137 199 ls (st) h = gA (ldA ls 0) 137 200 ls st h := x_aload_n hc_137 dX8_tried_199 rfl rfl
theorem x_137_200 {ls st : List Value} {h : Hp} {k : Nat} : ex 137 200 ls (.ref k :: st) h = if kd k = 8 then ex 137 203 ls (vl h k 34 :: st) h else none := x_getf hc_137 dX8_tried_200 rfl fr_8_90
theorem x_137_203 {ls st : List Value} {h : Hp}  : ex 137 203 ls (st) h = ex 137 205 ls (.int (40) :: st) h := x_bipush hc_137 dX8_tried_203 rfl (by decide)
theorem x_137_205 {ls st : List Value} {h : Hp}  : ex 137 205 ls (st) h = gI (ldI ls 4) 137 207 ls st h := x_iload hc_137 dX8_tried_205 rfl
theorem x_137_207 {ls st : List Value} {h : Hp} {a b : Int32} : ex 137 207 ls (.int b :: .int a :: st) h = ex 137 208 ls (.int (a + b) :: st) h := x_iadd hc_137 dX8_tried_207 rfl
theorem x_137_208 {ls st : List Value} {h : Hp}  : ex 137 208 ls (st) h = gA (ldA ls 0) 137 209 ls st h := x_aload_n hc_137 dX8_tried_208 rfl rfl
theorem x_137_209 {ls st : List Value} {h : Hp} {k : Nat} : ex 137 209 ls (.ref k :: st) h = if kd k = 8 then ex 137 212 ls (vl h k 34 :: st) h else none := x_getf hc_137 dX8_tried_209 rfl fr_8_90
theorem x_137_212 {ls st : List Value} {h : Hp}  : ex 137 212 ls (st) h = ex 137 213 ls (.int (4) :: st) h := x_iconst hc_137 dX8_tried_212 rfl (by decide)
theorem x_137_213 {ls st : List Value} {h : Hp}  : ex 137 213 ls (st) h = gI (ldI ls 1) 137 214 ls st h := x_iload_n hc_137 dX8_tried_213 rfl rfl
theorem x_137_214 {ls st : List Value} {h : Hp} {a b : Int32} : ex 137 214 ls (.int b :: .int a :: st) h = ex 137 215 ls (.int (a * b) :: st) h := x_imul hc_137 dX8_tried_214 rfl
theorem x_137_215 {ls st : List Value} {h : Hp}  : ex 137 215 ls (st) h = gI (ldI ls 4) 137 217 ls st h := x_iload hc_137 dX8_tried_215 rfl
theorem x_137_217 {ls st : List Value} {h : Hp} {a b : Int32} : ex 137 217 ls (.int b :: .int a :: st) h = ex 137 218 ls (.int (a + b) :: st) h := x_iadd hc_137 dX8_tried_217 rfl
theorem x_137_218 {ls st : List Value} {h : Hp} {k : Nat} {x : Int32} : ex 137 218 ls (.int x :: .ref k :: st) h = if kd k = 9 ∧ x.toNatClampNeg < ln k ∧ 0 ≤ x then ex 137 219 ls (.int (h k x.toNatClampNeg) :: st) h else none := x_iald hc_137 dX8_tried_218 rfl
theorem x_137_219 {ls st : List Value} {h : Hp} {k : Nat} {x u : Int32} : ex 137 219 ls (.int u :: .int x :: .ref k :: st) h = if kd k = 9 ∧ x.toNatClampNeg < ln k ∧ 0 ≤ x then ex 137 220 ls st (hu h k x.toNatClampNeg u) else none := x_iast hc_137 dX8_tried_219 rfl
theorem x_137_220 {ls st : List Value} {h : Hp}  : ex 137 220 ls (st) h = gA (ldA ls 0) 137 221 ls st h := x_aload_n hc_137 dX8_tried_220 rfl rfl
theorem x_137_221 {ls st : List Value} {h : Hp} {k : Nat} : ex 137 221 ls (.ref k :: st) h = if kd k = 8 then ex 137 224 ls (vl h k 35 :: st) h else none := x_getf hc_137 dX8_tried_221 rfl fr_8_93
theorem x_137_224 {ls st : List Value} {h : Hp}  : ex 137 224 ls (st) h = ex 137 226 ls (.int (40) :: st) h := x_bipush hc_137 dX8_tried_224 rfl (by decide)
theorem x_137_226 {ls st : List Value} {h : Hp}  : ex 137 226 ls (st) h = gI (ldI ls 4) 137 228 ls st h := x_iload hc_137 dX8_tried_226 rfl
theorem x_137_228 {ls st : List Value} {h : Hp} {a b : Int32} : ex 137 228 ls (.int b :: .int a :: st) h = ex 137 229 ls (.int (a + b) :: st) h := x_iadd hc_137 dX8_tried_228 rfl
theorem x_137_229 {ls st : List Value} {h : Hp}  : ex 137 229 ls (st) h = gA (ldA ls 0) 137 230 ls st h := x_aload_n hc_137 dX8_tried_229 rfl rfl
theorem x_137_230 {ls st : List Value} {h : Hp} {k : Nat} : ex 137 230 ls (.ref k :: st) h = if kd k = 8 then ex 137 233 ls (vl h k 35 :: st) h else none := x_getf hc_137 dX8_tried_230 rfl fr_8_93
theorem x_137_233 {ls st : List Value} {h : Hp}  : ex 137 233 ls (st) h = ex 137 234 ls (.int (4) :: st) h := x_iconst hc_137 dX8_tried_233 rfl (by decide)
theorem x_137_234 {ls st : List Value} {h : Hp}  : ex 137 234 ls (st) h = gI (ldI ls 1) 137 235 ls st h := x_iload_n hc_137 dX8_tried_234 rfl rfl
theorem x_137_235 {ls st : List Value} {h : Hp} {a b : Int32} : ex 137 235 ls (.int b :: .int a :: st) h = ex 137 236 ls (.int (a * b) :: st) h := x_imul hc_137 dX8_tried_235 rfl
theorem x_137_236 {ls st : List Value} {h : Hp}  : ex 137 236 ls (st) h = gI (ldI ls 4) 137 238 ls st h := x_iload hc_137 dX8_tried_236 rfl
theorem x_137_238 {ls st : List Value} {h : Hp} {a b : Int32} : ex 137 238 ls (.int b :: .int a :: st) h = ex 137 239 ls (.int (a + b) :: st) h := x_iadd hc_137 dX8_tried_238 rfl
theorem x_137_239 {ls st : List Value} {h : Hp} {k : Nat} {x : Int32} : ex 137 239 ls (.int x :: .ref k :: st) h = if kd k = 9 ∧ x.toNatClampNeg < ln k ∧ 0 ≤ x then ex 137 240 ls (.int (h k x.toNatClampNeg) :: st) h else none := x_iald hc_137 dX8_tried_239 rfl
theorem x_137_240 {ls st : List Value} {h : Hp} {k : Nat} {x u : Int32} : ex 137 240 ls (.int u :: .int x :: .ref k :: st) h = if kd k = 9 ∧ x.toNatClampNeg < ln k ∧ 0 ≤ x then ex 137 241 ls st (hu h k x.toNatClampNeg u) else none := x_iast hc_137 dX8_tried_240 rfl
theorem x_137_241 {ls st : List Value} {h : Hp}  : ex 137 241 ls (st) h = gN (ldI ls 4) 137 244 ls 4 (1) st h := x_iinc hc_137 dX8_tried_241 rfl (by decide) (by decide)
theorem x_137_244 {ls st : List Value} {h : Hp}  : ex 137 244 ls (st) h = ex 137 109 ls st h := x_goto hc_137 dX8_tried_244 (by decide)
theorem x_137_247 {ls st : List Value} {h : Hp}  : ex 137 247 ls (st) h = ex 137 248 ls (.int (0) :: st) h := x_iconst hc_137 dX8_tried_247 rfl (by decide)
theorem x_137_248 {ls st : List Value} {h : Hp} {x : Int32} : ex 137 248 ls (.int x :: st) h = ex 137 250 (ls.set 4 (.int x)) st h := x_istore hc_137 dX8_tried_248 rfl (by decide)
theorem x_137_250 {ls st : List Value} {h : Hp}  : ex 137 250 ls (st) h = gI (ldI ls 4) 137 252 ls st h := x_iload hc_137 dX8_tried_250 rfl
theorem x_137_252 {ls st : List Value} {h : Hp}  : ex 137 252 ls (st) h = ex 137 254 ls (.int (8) :: st) h := x_bipush hc_137 dX8_tried_252 rfl (by decide)
theorem x_137_254 {ls st : List Value} {h : Hp} {x z : Int32} : ex 137 254 ls (.int z :: .int x :: st) h = if x < z then ex 137 257 ls st h else ex 137 277 ls st h := x_icmp_ge hc_137 dX8_tried_254 rfl (by decide)
theorem x_137_257 {ls st : List Value} {h : Hp}  : ex 137 257 ls (st) h = gA (ldA ls 0) 137 258 ls st h := x_aload_n hc_137 dX8_tried_257 rfl rfl
theorem x_137_258 {ls st : List Value} {h : Hp} {k : Nat} : ex 137 258 ls (.ref k :: st) h = if kd k = 8 then ex 137 261 ls (vl h k 54 :: st) h else none := x_getf hc_137 dX8_tried_258 rfl fr_8_138
theorem x_137_261 {ls st : List Value} {h : Hp}  : ex 137 261 ls (st) h = gI (ldI ls 4) 137 263 ls st h := x_iload hc_137 dX8_tried_261 rfl
theorem x_137_263 {ls st : List Value} {h : Hp}  : ex 137 263 ls (st) h = gA (ldA ls 0) 137 264 ls st h := x_aload_n hc_137 dX8_tried_263 rfl rfl
theorem x_137_264 {ls st : List Value} {h : Hp} {k : Nat} : ex 137 264 ls (.ref k :: st) h = if kd k = 8 then ex 137 267 ls (vl h k 10 :: st) h else none := x_getf hc_137 dX8_tried_264 rfl fr_8_17
theorem x_137_267 {ls st : List Value} {h : Hp}  : ex 137 267 ls (st) h = gI (ldI ls 4) 137 269 ls st h := x_iload hc_137 dX8_tried_267 rfl
theorem x_137_269 {ls st : List Value} {h : Hp} {k : Nat} {x : Int32} : ex 137 269 ls (.int x :: .ref k :: st) h = if kd k = 9 ∧ x.toNatClampNeg < ln k ∧ 0 ≤ x then ex 137 270 ls (.int (h k x.toNatClampNeg) :: st) h else none := x_iald hc_137 dX8_tried_269 rfl
theorem x_137_270 {ls st : List Value} {h : Hp} {k : Nat} {x u : Int32} : ex 137 270 ls (.int u :: .int x :: .ref k :: st) h = if kd k = 9 ∧ x.toNatClampNeg < ln k ∧ 0 ≤ x then ex 137 271 ls st (hu h k x.toNatClampNeg u) else none := x_iast hc_137 dX8_tried_270 rfl
theorem x_137_271 {ls st : List Value} {h : Hp}  : ex 137 271 ls (st) h = gN (ldI ls 4) 137 274 ls 4 (1) st h := x_iinc hc_137 dX8_tried_271 rfl (by decide) (by decide)
theorem x_137_274 {ls st : List Value} {h : Hp}  : ex 137 274 ls (st) h = ex 137 250 ls st h := x_goto hc_137 dX8_tried_274 (by decide)
theorem x_137_277 {ls st : List Value} {h : Hp}  : ex 137 277 ls (st) h = gA (ldA ls 0) 137 278 ls st h := x_aload_n hc_137 dX8_tried_277 rfl rfl
theorem x_137_278 {ls st : List Value} {h : Hp} {k : Nat} : ex 137 278 ls (.ref k :: st) h = if kd k = 8 then ex 137 281 ls (vl h k 5 :: st) h else none := x_getf hc_137 dX8_tried_278 rfl fr_8_171
theorem x_137_281 {ls st : List Value} {h : Hp} {x : Int32} : ex 137 281 ls (.int x :: st) h = ex 137 283 (ls.set 4 (.int x)) st h := x_istore hc_137 dX8_tried_281 rfl (by decide)
theorem x_137_283 {ls st : List Value} {h : Hp}  : ex 137 283 ls (st) h = gA (ldA ls 0) 137 284 ls st h := x_aload_n hc_137 dX8_tried_283 rfl rfl
theorem x_137_284 {ls st : List Value} {h : Hp} {k : Nat} : ex 137 284 ls (.ref k :: st) h = if kd k = 8 then ex 137 287 ls (vl h k 6 :: st) h else none := x_getf hc_137 dX8_tried_284 rfl fr_8_253
theorem x_137_287 {ls st : List Value} {h : Hp} {x : Int32} : ex 137 287 ls (.int x :: st) h = ex 137 289 (ls.set 5 (.int x)) st h := x_istore hc_137 dX8_tried_287 rfl (by decide)
theorem x_137_289 {ls st : List Value} {h : Hp}  : ex 137 289 ls (st) h = gA (ldA ls 0) 137 290 ls st h := x_aload_n hc_137 dX8_tried_289 rfl rfl
theorem x_137_290 {ls st : List Value} {h : Hp} {k : Nat} : ex 137 290 ls (.ref k :: st) h = if kd k = 8 then ex 137 293 ls (vl h k 23 :: st) h else none := x_getf hc_137 dX8_tried_290 rfl fr_8_56
theorem x_137_293 {ls st : List Value} {h : Hp}  : ex 137 293 ls (st) h = gI (ldI ls 3) 137 294 ls st h := x_iload_n hc_137 dX8_tried_293 rfl rfl
theorem x_137_294 {ls st : List Value} {h : Hp} {k : Nat} {x : Int32} : ex 137 294 ls (.int x :: .ref k :: st) h = if kd k = 9 ∧ x.toNatClampNeg < ln k ∧ 0 ≤ x then ex 137 295 ls (.int (h k x.toNatClampNeg) :: st) h else none := x_iald hc_137 dX8_tried_294 rfl
theorem x_137_295 {ls st : List Value} {h : Hp}  : ex 137 295 ls (st) h = ex 137 296 ls (.int (-1) :: st) h := x_iconst hc_137 dX8_tried_295 rfl (by decide)
theorem x_137_296 {ls st : List Value} {h : Hp} {x z : Int32} : ex 137 296 ls (.int z :: .int x :: st) h = if x = z then ex 137 299 ls st h else ex 137 308 ls st h := x_icmp_ne hc_137 dX8_tried_296 rfl (by decide)
theorem x_137_299 {ls st : List Value} {h : Hp}  : ex 137 299 ls (st) h = gA (ldA ls 0) 137 300 ls st h := x_aload_n hc_137 dX8_tried_299 rfl rfl
theorem x_137_300 {ls st : List Value} {h : Hp}  : ex 137 300 ls (st) h = gI (ldI ls 3) 137 301 ls st h := x_iload_n hc_137 dX8_tried_300 rfl rfl
theorem x_137_301 {ls st : List Value} {h : Hp}  : ex 137 301 ls (st) h = gI (ldI ls 2) 137 302 ls st h := x_iload_n hc_137 dX8_tried_301 rfl rfl
theorem x_137_302 {ls st : List Value} {h : Hp} {k : Nat} {a0 : Int32} {a1 : Int32} : ex 137 302 ls (.int a1 :: .int a0 :: .ref k :: st) h = if kd k = 8 ∧ st.length ≤ 4 then gC (ex 110 0 [.ref k, .int a0, .int a1, .null] [] h) 137 305 ls st else none := x_callV (as := [.int a0, .int a1]) hc_137 dX8_tried_302 rfl mr_8_174 rfl rfl rfl (by decide) (by decide)
theorem x_137_305 {ls st : List Value} {h : Hp}  : ex 137 305 ls (st) h = ex 137 315 ls st h := x_goto hc_137 dX8_tried_305 (by decide)
theorem x_137_308 {ls st : List Value} {h : Hp}  : ex 137 308 ls (st) h = gA (ldA ls 0) 137 309 ls st h := x_aload_n hc_137 dX8_tried_308 rfl rfl
theorem x_137_309 {ls st : List Value} {h : Hp} {k : Nat} : ex 137 309 ls (.ref k :: st) h = if kd k = 8 then ex 137 312 ls (vl h k 23 :: st) h else none := x_getf hc_137 dX8_tried_309 rfl fr_8_56
theorem x_137_312 {ls st : List Value} {h : Hp}  : ex 137 312 ls (st) h = gI (ldI ls 3) 137 313 ls st h := x_iload_n hc_137 dX8_tried_312 rfl rfl
theorem x_137_313 {ls st : List Value} {h : Hp}  : ex 137 313 ls (st) h = gI (ldI ls 2) 137 314 ls st h := x_iload_n hc_137 dX8_tried_313 rfl rfl
theorem x_137_314 {ls st : List Value} {h : Hp} {k : Nat} {x u : Int32} : ex 137 314 ls (.int u :: .int x :: .ref k :: st) h = if kd k = 9 ∧ x.toNatClampNeg < ln k ∧ 0 ≤ x then ex 137 315 ls st (hu h k x.toNatClampNeg u) else none := x_iast hc_137 dX8_tried_314 rfl
theorem x_137_315 {ls st : List Value} {h : Hp}  : ex 137 315 ls (st) h = gA (ldA ls 0) 137 316 ls st h := x_aload_n hc_137 dX8_tried_315 rfl rfl
theorem x_137_316 {ls st : List Value} {h : Hp} {k : Nat} : ex 137 316 ls (.ref k :: st) h = if kd k = 8 then ex 137 319 ls (vl h k 28 :: st) h else none := x_getf hc_137 dX8_tried_316 rfl fr_8_72
theorem x_137_319 {ls st : List Value} {h : Hp}  : ex 137 319 ls (st) h = gI (ldI ls 3) 137 320 ls st h := x_iload_n hc_137 dX8_tried_319 rfl rfl
theorem x_137_320 {ls st : List Value} {h : Hp}  : ex 137 320 ls (st) h = ex 137 321 ls (.int (0) :: st) h := x_iconst hc_137 dX8_tried_320 rfl (by decide)
theorem x_137_321 {ls st : List Value} {h : Hp} {k : Nat} {x u : Int32} : ex 137 321 ls (.int u :: .int x :: .ref k :: st) h = if (kd k = 10 ∧ x.toNatClampNeg < ln k ∧ 0 ≤ x) ∧ (u = 0 ∨ u = 1) then ex 137 322 ls st (hu h k x.toNatClampNeg u) else none := x_zast hc_137 dX8_tried_321 rfl
theorem x_137_322 {ls st : List Value} {h : Hp}  : ex 137 322 ls (st) h = ex 137 323 ls (.int (0) :: st) h := x_iconst hc_137 dX8_tried_322 rfl (by decide)
theorem x_137_323 {ls st : List Value} {h : Hp} {x : Int32} : ex 137 323 ls (.int x :: st) h = ex 137 325 (ls.set 6 (.int x)) st h := x_istore hc_137 dX8_tried_323 rfl (by decide)
theorem x_137_325 {ls st : List Value} {h : Hp}  : ex 137 325 ls (st) h = gA (ldA ls 0) 137 326 ls st h := x_aload_n hc_137 dX8_tried_325 rfl rfl
theorem x_137_326 {ls st : List Value} {h : Hp} {k : Nat} : ex 137 326 ls (.ref k :: st) h = if kd k = 8 then ex 137 329 ls (vl h k 0 :: st) h else none := x_getf hc_137 dX8_tried_326 rfl fr_8_262
theorem x_137_329 {ls st : List Value} {h : Hp} {x : Int32} : ex 137 329 ls (.int x :: st) h = ex 137 331 (ls.set 7 (.int x)) st h := x_istore hc_137 dX8_tried_329 rfl (by decide)
theorem x_137_331 {ls st : List Value} {h : Hp}  : ex 137 331 ls (st) h = gI (ldI ls 6) 137 333 ls st h := x_iload hc_137 dX8_tried_331 rfl
theorem x_137_333 {ls st : List Value} {h : Hp} {x : Int32} : ex 137 333 ls (.int x :: st) h = if x = 0 then ex 137 336 ls st h else ex 137 356 ls st h := x_if_ne hc_137 dX8_tried_333 rfl (by decide)
theorem x_137_336 {ls st : List Value} {h : Hp}  : ex 137 336 ls (st) h = gA (ldA ls 0) 137 337 ls st h := x_aload_n hc_137 dX8_tried_336 rfl rfl
theorem x_137_337 {ls st : List Value} {h : Hp} {k : Nat}  : ex 137 337 ls (.ref k :: st) h = if kd k = 8 ∧ st.length ≤ 4 then gC (ex 125 0 [.ref k, .null] [] h) 137 340 ls st else none := x_callV (as := []) hc_137 dX8_tried_337 rfl mr_8_259 rfl rfl rfl (by decide) (by decide)
theorem x_137_340 {ls st : List Value} {h : Hp}  : ex 137 340 ls (st) h = gA (ldA ls 0) 137 341 ls st h := x_aload_n hc_137 dX8_tried_340 rfl rfl
theorem x_137_341 {ls st : List Value} {h : Hp}  : ex 137 341 ls (st) h = gI (ldI ls 3) 137 342 ls st h := x_iload_n hc_137 dX8_tried_341 rfl rfl
theorem x_137_342 {ls st : List Value} {h : Hp}  : ex 137 342 ls (st) h = gI (ldI ls 7) 137 344 ls st h := x_iload hc_137 dX8_tried_342 rfl
theorem x_137_344 {ls st : List Value} {h : Hp}  : ex 137 344 ls (st) h = gI (ldI ls 1) 137 345 ls st h := x_iload_n hc_137 dX8_tried_344 rfl rfl
theorem x_137_345 {ls st : List Value} {h : Hp} {k : Nat} {a0 : Int32} {a1 : Int32} {a2 : Int32} : ex 137 345 ls (.int a2 :: .int a1 :: .int a0 :: .ref k :: st) h = if kd k = 8 ∧ st.length ≤ 4 then gC (ex 126 0 [.ref k, .int a0, .int a1, .int a2, .null, .null, .null, .null, .null] [] h) 137 348 ls st else none := x_callV (as := [.int a0, .int a1, .int a2]) hc_137 dX8_tried_345 rfl mr_8_265 rfl rfl rfl (by decide) (by decide)
theorem x_137_348 {ls st : List Value} {h : Hp} {x : Int32} : ex 137 348 ls (.int x :: st) h = ex 137 350 (ls.set 6 (.int x)) st h := x_istore hc_137 dX8_tried_348 rfl (by decide)
theorem x_137_350 {ls st : List Value} {h : Hp}  : ex 137 350 ls (st) h = gN (ldI ls 7) 137 353 ls 7 (1) st h := x_iinc hc_137 dX8_tried_350 rfl (by decide) (by decide)
theorem x_137_353 {ls st : List Value} {h : Hp}  : ex 137 353 ls (st) h = ex 137 331 ls st h := x_goto hc_137 dX8_tried_353 (by decide)
theorem x_137_356 {ls st : List Value} {h : Hp}  : ex 137 356 ls (st) h = gA (ldA ls 0) 137 357 ls st h := x_aload_n hc_137 dX8_tried_356 rfl rfl
theorem x_137_357 {ls st : List Value} {h : Hp} {k : Nat}  : ex 137 357 ls (.ref k :: st) h = if kd k = 8 ∧ st.length ≤ 4 then gC (ex 125 0 [.ref k, .null] [] h) 137 360 ls st else none := x_callV (as := []) hc_137 dX8_tried_357 rfl mr_8_259 rfl rfl rfl (by decide) (by decide)
theorem x_137_360 {ls st : List Value} {h : Hp}  : ex 137 360 ls (st) h = gA (ldA ls 0) 137 361 ls st h := x_aload_n hc_137 dX8_tried_360 rfl rfl
theorem x_137_361 {ls st : List Value} {h : Hp}  : ex 137 361 ls (st) h = gI (ldI ls 3) 137 362 ls st h := x_iload_n hc_137 dX8_tried_361 rfl rfl
theorem x_137_362 {ls st : List Value} {h : Hp}  : ex 137 362 ls (st) h = gI (ldI ls 2) 137 363 ls st h := x_iload_n hc_137 dX8_tried_362 rfl rfl
theorem x_137_363 {ls st : List Value} {h : Hp} {k : Nat} {a0 : Int32} {a1 : Int32} : ex 137 363 ls (.int a1 :: .int a0 :: .ref k :: st) h = if kd k = 8 ∧ st.length ≤ 4 then gC (ex 133 0 [.ref k, .int a0, .int a1, .null, .null, .null] [] h) 137 366 ls st else none := x_callV (as := [.int a0, .int a1]) hc_137 dX8_tried_363 rfl mr_8_277 rfl rfl rfl (by decide) (by decide)
theorem x_137_366 {ls st : List Value} {h : Hp} {x : Int32} : ex 137 366 ls (.int x :: st) h = ex 137 368 (ls.set 7 (.int x)) st h := x_istore hc_137 dX8_tried_366 rfl (by decide)
theorem x_137_368 {ls st : List Value} {h : Hp}  : ex 137 368 ls (st) h = ex 137 369 ls (.int (0) :: st) h := x_iconst hc_137 dX8_tried_368 rfl (by decide)
theorem x_137_369 {ls st : List Value} {h : Hp} {x : Int32} : ex 137 369 ls (.int x :: st) h = ex 137 371 (ls.set 8 (.int x)) st h := x_istore hc_137 dX8_tried_369 rfl (by decide)
theorem x_137_371 {ls st : List Value} {h : Hp}  : ex 137 371 ls (st) h = gI (ldI ls 8) 137 373 ls st h := x_iload hc_137 dX8_tried_371 rfl
theorem x_137_373 {ls st : List Value} {h : Hp}  : ex 137 373 ls (st) h = ex 137 375 ls (.int (8) :: st) h := x_bipush hc_137 dX8_tried_373 rfl (by decide)
theorem x_137_375 {ls st : List Value} {h : Hp} {x z : Int32} : ex 137 375 ls (.int z :: .int x :: st) h = if x < z then ex 137 378 ls st h else ex 137 398 ls st h := x_icmp_ge hc_137 dX8_tried_375 rfl (by decide)
theorem x_137_378 {ls st : List Value} {h : Hp}  : ex 137 378 ls (st) h = gA (ldA ls 0) 137 379 ls st h := x_aload_n hc_137 dX8_tried_378 rfl rfl
theorem x_137_379 {ls st : List Value} {h : Hp} {k : Nat} : ex 137 379 ls (.ref k :: st) h = if kd k = 8 then ex 137 382 ls (vl h k 10 :: st) h else none := x_getf hc_137 dX8_tried_379 rfl fr_8_17
theorem x_137_382 {ls st : List Value} {h : Hp}  : ex 137 382 ls (st) h = gI (ldI ls 8) 137 384 ls st h := x_iload hc_137 dX8_tried_382 rfl
theorem x_137_384 {ls st : List Value} {h : Hp}  : ex 137 384 ls (st) h = gA (ldA ls 0) 137 385 ls st h := x_aload_n hc_137 dX8_tried_384 rfl rfl
theorem x_137_385 {ls st : List Value} {h : Hp} {k : Nat} : ex 137 385 ls (.ref k :: st) h = if kd k = 8 then ex 137 388 ls (vl h k 54 :: st) h else none := x_getf hc_137 dX8_tried_385 rfl fr_8_138
theorem x_137_388 {ls st : List Value} {h : Hp}  : ex 137 388 ls (st) h = gI (ldI ls 8) 137 390 ls st h := x_iload hc_137 dX8_tried_388 rfl
theorem x_137_390 {ls st : List Value} {h : Hp} {k : Nat} {x : Int32} : ex 137 390 ls (.int x :: .ref k :: st) h = if kd k = 9 ∧ x.toNatClampNeg < ln k ∧ 0 ≤ x then ex 137 391 ls (.int (h k x.toNatClampNeg) :: st) h else none := x_iald hc_137 dX8_tried_390 rfl
theorem x_137_391 {ls st : List Value} {h : Hp} {k : Nat} {x u : Int32} : ex 137 391 ls (.int u :: .int x :: .ref k :: st) h = if kd k = 9 ∧ x.toNatClampNeg < ln k ∧ 0 ≤ x then ex 137 392 ls st (hu h k x.toNatClampNeg u) else none := x_iast hc_137 dX8_tried_391 rfl
theorem x_137_392 {ls st : List Value} {h : Hp}  : ex 137 392 ls (st) h = gN (ldI ls 8) 137 395 ls 8 (1) st h := x_iinc hc_137 dX8_tried_392 rfl (by decide) (by decide)
theorem x_137_395 {ls st : List Value} {h : Hp}  : ex 137 395 ls (st) h = ex 137 371 ls st h := x_goto hc_137 dX8_tried_395 (by decide)
theorem x_137_398 {ls st : List Value} {h : Hp}  : ex 137 398 ls (st) h = gA (ldA ls 0) 137 399 ls st h := x_aload_n hc_137 dX8_tried_398 rfl rfl
theorem x_137_399 {ls st : List Value} {h : Hp}  : ex 137 399 ls (st) h = gI (ldI ls 4) 137 401 ls st h := x_iload hc_137 dX8_tried_399 rfl
theorem x_137_401 {ls st : List Value} {h : Hp} {k : Nat} {x : Int32} : ex 137 401 ls (.int x :: .ref k :: st) h = if kd k = 8 then ex 137 404 ls st (hu h k 5 x) else none := x_putf hc_137 dX8_tried_401 rfl fr_8_171 (by decide)
theorem x_137_404 {ls st : List Value} {h : Hp}  : ex 137 404 ls (st) h = gA (ldA ls 0) 137 405 ls st h := x_aload_n hc_137 dX8_tried_404 rfl rfl
theorem x_137_405 {ls st : List Value} {h : Hp}  : ex 137 405 ls (st) h = gI (ldI ls 5) 137 407 ls st h := x_iload hc_137 dX8_tried_405 rfl
theorem x_137_407 {ls st : List Value} {h : Hp} {k : Nat} {x : Int32} : ex 137 407 ls (.int x :: .ref k :: st) h = if kd k = 8 then ex 137 410 ls st (hu h k 6 x) else none := x_putf hc_137 dX8_tried_407 rfl fr_8_253 (by decide)
theorem x_137_410 {ls st : List Value} {h : Hp}  : ex 137 410 ls (st) h = gI (ldI ls 7) 137 412 ls st h := x_iload hc_137 dX8_tried_410 rfl
theorem x_137_412 {ls : List Value} {h : Hp} {v : Int32} : ex 137 412 ls [.int v] h = some (some (.int v), h) := x_iret hc_137 dX8_tried_412 rfl
theorem x_138_0 {ls st : List Value} {h : Hp}  : ex 138 0 ls (st) h = gA (ldA ls 0) 138 1 ls st h := x_aload_n hc_138 dX8_best_0 rfl rfl
theorem x_138_1 {ls st : List Value} {h : Hp}  : ex 138 1 ls (st) h = gI (ldI ls 1) 138 2 ls st h := x_iload_n hc_138 dX8_best_1 rfl rfl
theorem x_138_2 {ls st : List Value} {h : Hp} {k : Nat} {a0 : Int32} : ex 138 2 ls (.int a0 :: .ref k :: st) h = if kd k = 8 ∧ st.length ≤ 4 then gC (ex 105 0 [.ref k, .int a0] [] h) 138 5 ls st else none := x_callV (as := [.int a0]) hc_138 dX8_best_2 rfl mr_8_168 rfl rfl rfl (by decide) (by decide)
theorem x_138_5 {ls st : List Value} {h : Hp} {x : Int32} : ex 138 5 ls (.int x :: st) h = if x = 0 then ex 138 8 ls st h else ex 138 15 ls st h := x_if_ne hc_138 dX8_best_5 rfl (by decide)
theorem x_138_8 {ls st : List Value} {h : Hp}  : ex 138 8 ls (st) h = gA (ldA ls 0) 138 9 ls st h := x_aload_n hc_138 dX8_best_8 rfl rfl
theorem x_138_9 {ls st : List Value} {h : Hp}  : ex 138 9 ls (st) h = ex 138 11 ls (.int (-3) :: st) h := x_bipush hc_138 dX8_best_9 rfl (by decide)
theorem x_138_11 {ls st : List Value} {h : Hp} {k : Nat} {a0 : Int32} : ex 138 11 ls (.int a0 :: .ref k :: st) h = if kd k = 8 ∧ st.length ≤ 4 then gC (ex 92 0 [.ref k, .int a0] [] h) 138 14 ls st else none := x_callV (as := [.int a0]) hc_138 dX8_best_11 rfl mr_8_148 rfl rfl rfl (by decide) (by decide)
theorem x_138_14 {ls : List Value} {h : Hp} {v : Int32} : ex 138 14 ls [.int v] h = some (some (.int v), h) := x_iret hc_138 dX8_best_14 rfl
theorem x_138_15 {ls st : List Value} {h : Hp}  : ex 138 15 ls (st) h = ex 138 16 ls (.int (-1) :: st) h := x_iconst hc_138 dX8_best_15 rfl (by decide)
theorem x_138_16 {ls st : List Value} {h : Hp} {x : Int32} : ex 138 16 ls (.int x :: st) h = ex 138 17 (ls.set 2 (.int x)) st h := x_istore_n hc_138 dX8_best_16 rfl rfl (by decide)
theorem x_138_17 {ls st : List Value} {h : Hp}  : ex 138 17 ls (st) h = ex 138 18 ls (.int (0) :: st) h := x_iconst hc_138 dX8_best_17 rfl (by decide)
theorem x_138_18 {ls st : List Value} {h : Hp} {x : Int32} : ex 138 18 ls (.int x :: st) h = ex 138 19 (ls.set 3 (.int x)) st h := x_istore_n hc_138 dX8_best_18 rfl rfl (by decide)
theorem x_138_19 {ls st : List Value} {h : Hp}  : ex 138 19 ls (st) h = ex 138 20 ls (.int (0) :: st) h := x_iconst hc_138 dX8_best_19 rfl (by decide)
theorem x_138_20 {ls st : List Value} {h : Hp} {x : Int32} : ex 138 20 ls (.int x :: st) h = ex 138 22 (ls.set 4 (.int x)) st h := x_istore hc_138 dX8_best_20 rfl (by decide)
theorem x_138_22 {ls st : List Value} {h : Hp}  : ex 138 22 ls (st) h = gI (ldI ls 4) 138 24 ls st h := x_iload hc_138 dX8_best_22 rfl
theorem x_138_24 {ls st : List Value} {h : Hp}  : ex 138 24 ls (st) h = gA (ldA ls 0) 138 25 ls st h := x_aload_n hc_138 dX8_best_24 rfl rfl
theorem x_138_25 {ls st : List Value} {h : Hp} {k : Nat} : ex 138 25 ls (.ref k :: st) h = if kd k = 8 then ex 138 28 ls (vl h k 1 :: st) h else none := x_getf hc_138 dX8_best_25 rfl fr_8_7
theorem x_138_28 {ls st : List Value} {h : Hp} {x z : Int32} : ex 138 28 ls (.int z :: .int x :: st) h = if x < z then ex 138 31 ls st h else ex 138 76 ls st h := x_icmp_ge hc_138 dX8_best_28 rfl (by decide)
theorem x_138_31 {ls st : List Value} {h : Hp}  : ex 138 31 ls (st) h = gA (ldA ls 0) 138 32 ls st h := x_aload_n hc_138 dX8_best_31 rfl rfl
theorem x_138_32 {ls st : List Value} {h : Hp}  : ex 138 32 ls (st) h = gI (ldI ls 1) 138 33 ls st h := x_iload_n hc_138 dX8_best_32 rfl rfl
theorem x_138_33 {ls st : List Value} {h : Hp}  : ex 138 33 ls (st) h = gI (ldI ls 4) 138 35 ls st h := x_iload hc_138 dX8_best_33 rfl
theorem x_138_35 {ls st : List Value} {h : Hp} {k : Nat} {a0 : Int32} {a1 : Int32} : ex 138 35 ls (.int a1 :: .int a0 :: .ref k :: st) h = if kd k = 8 ∧ st.length ≤ 4 then gC (ex 136 0 [.ref k, .int a0, .int a1] [] h) 138 38 ls st else none := x_callV (as := [.int a0, .int a1]) hc_138 dX8_best_35 rfl mr_8_286 rfl rfl rfl (by decide) (by decide)
theorem x_138_38 {ls st : List Value} {h : Hp} {x : Int32} : ex 138 38 ls (.int x :: st) h = if x = 0 then ex 138 41 ls st h else ex 138 44 ls st h := x_if_ne hc_138 dX8_best_38 rfl (by decide)
theorem x_138_41 {ls st : List Value} {h : Hp}  : ex 138 41 ls (st) h = ex 138 70 ls st h := x_goto hc_138 dX8_best_41 (by decide)
theorem x_138_44 {ls st : List Value} {h : Hp}  : ex 138 44 ls (st) h = gA (ldA ls 0) 138 45 ls st h := x_aload_n hc_138 dX8_best_44 rfl rfl
theorem x_138_45 {ls st : List Value} {h : Hp}  : ex 138 45 ls (st) h = gI (ldI ls 1) 138 46 ls st h := x_iload_n hc_138 dX8_best_45 rfl rfl
theorem x_138_46 {ls st : List Value} {h : Hp}  : ex 138 46 ls (st) h = gI (ldI ls 4) 138 48 ls st h := x_iload hc_138 dX8_best_46 rfl
theorem x_138_48 {ls st : List Value} {h : Hp} {k : Nat} {a0 : Int32} {a1 : Int32} : ex 138 48 ls (.int a1 :: .int a0 :: .ref k :: st) h = if kd k = 8 ∧ st.length ≤ 4 then gC (ex 137 0 [.ref k, .int a0, .int a1, .null, .null, .null, .null, .null, .null] [] h) 138 51 ls st else none := x_callV (as := [.int a0, .int a1]) hc_138 dX8_best_48 rfl mr_8_289 rfl rfl rfl (by decide) (by decide)
theorem x_138_51 {ls st : List Value} {h : Hp} {x : Int32} : ex 138 51 ls (.int x :: st) h = ex 138 53 (ls.set 5 (.int x)) st h := x_istore hc_138 dX8_best_51 rfl (by decide)
theorem x_138_53 {ls st : List Value} {h : Hp}  : ex 138 53 ls (st) h = gI (ldI ls 2) 138 54 ls st h := x_iload_n hc_138 dX8_best_53 rfl rfl
theorem x_138_54 {ls st : List Value} {h : Hp}  : ex 138 54 ls (st) h = ex 138 55 ls (.int (-1) :: st) h := x_iconst hc_138 dX8_best_54 rfl (by decide)
theorem x_138_55 {ls st : List Value} {h : Hp} {x z : Int32} : ex 138 55 ls (.int z :: .int x :: st) h = if x = z then ex 138 64 ls st h else ex 138 58 ls st h := x_icmp_eq hc_138 dX8_best_55 rfl (by decide)
theorem x_138_58 {ls st : List Value} {h : Hp}  : ex 138 58 ls (st) h = gI (ldI ls 5) 138 60 ls st h := x_iload hc_138 dX8_best_58 rfl
theorem x_138_60 {ls st : List Value} {h : Hp}  : ex 138 60 ls (st) h = gI (ldI ls 3) 138 61 ls st h := x_iload_n hc_138 dX8_best_60 rfl rfl
theorem x_138_61 {ls st : List Value} {h : Hp} {x z : Int32} : ex 138 61 ls (.int z :: .int x :: st) h = if z < x then ex 138 64 ls st h else ex 138 70 ls st h := x_icmp_le hc_138 dX8_best_61 rfl (by decide)
theorem x_138_64 {ls st : List Value} {h : Hp}  : ex 138 64 ls (st) h = gI (ldI ls 4) 138 66 ls st h := x_iload hc_138 dX8_best_64 rfl
theorem x_138_66 {ls st : List Value} {h : Hp} {x : Int32} : ex 138 66 ls (.int x :: st) h = ex 138 67 (ls.set 2 (.int x)) st h := x_istore_n hc_138 dX8_best_66 rfl rfl (by decide)
theorem x_138_67 {ls st : List Value} {h : Hp}  : ex 138 67 ls (st) h = gI (ldI ls 5) 138 69 ls st h := x_iload hc_138 dX8_best_67 rfl
theorem x_138_69 {ls st : List Value} {h : Hp} {x : Int32} : ex 138 69 ls (.int x :: st) h = ex 138 70 (ls.set 3 (.int x)) st h := x_istore_n hc_138 dX8_best_69 rfl rfl (by decide)
theorem x_138_70 {ls st : List Value} {h : Hp}  : ex 138 70 ls (st) h = gN (ldI ls 4) 138 73 ls 4 (1) st h := x_iinc hc_138 dX8_best_70 rfl (by decide) (by decide)
theorem x_138_73 {ls st : List Value} {h : Hp}  : ex 138 73 ls (st) h = ex 138 22 ls st h := x_goto hc_138 dX8_best_73 (by decide)
theorem x_138_76 {ls st : List Value} {h : Hp}  : ex 138 76 ls (st) h = gI (ldI ls 2) 138 77 ls st h := x_iload_n hc_138 dX8_best_76 rfl rfl
theorem x_138_77 {ls : List Value} {h : Hp} {v : Int32} : ex 138 77 ls [.int v] h = some (some (.int v), h) := x_iret hc_138 dX8_best_77 rfl
theorem x_139_0 {ls st : List Value} {h : Hp}  : ex 139 0 ls (st) h = gA (ldA ls 0) 139 1 ls st h := x_aload_n hc_139 dX8_claim_0 rfl rfl
theorem x_139_1 {ls st : List Value} {h : Hp}  : ex 139 1 ls (st) h = gI (ldI ls 1) 139 2 ls st h := x_iload_n hc_139 dX8_claim_1 rfl rfl
theorem x_139_2 {ls st : List Value} {h : Hp} {k : Nat} {a0 : Int32} : ex 139 2 ls (.int a0 :: .ref k :: st) h = if kd k = 8 ∧ st.length ≤ 4 then gC (ex 105 0 [.ref k, .int a0] [] h) 139 5 ls st else none := x_callV (as := [.int a0]) hc_139 dX8_claim_2 rfl mr_8_168 rfl rfl rfl (by decide) (by decide)
theorem x_139_5 {ls st : List Value} {h : Hp} {x : Int32} : ex 139 5 ls (.int x :: st) h = if x = 0 then ex 139 8 ls st h else ex 139 15 ls st h := x_if_ne hc_139 dX8_claim_5 rfl (by decide)
theorem x_139_8 {ls st : List Value} {h : Hp}  : ex 139 8 ls (st) h = gA (ldA ls 0) 139 9 ls st h := x_aload_n hc_139 dX8_claim_8 rfl rfl
theorem x_139_9 {ls st : List Value} {h : Hp}  : ex 139 9 ls (st) h = ex 139 11 ls (.int (-3) :: st) h := x_bipush hc_139 dX8_claim_9 rfl (by decide)
theorem x_139_11 {ls st : List Value} {h : Hp} {k : Nat} {a0 : Int32} : ex 139 11 ls (.int a0 :: .ref k :: st) h = if kd k = 8 ∧ st.length ≤ 4 then gC (ex 92 0 [.ref k, .int a0] [] h) 139 14 ls st else none := x_callV (as := [.int a0]) hc_139 dX8_claim_11 rfl mr_8_148 rfl rfl rfl (by decide) (by decide)
theorem x_139_14 {ls : List Value} {h : Hp} {v : Int32} : ex 139 14 ls [.int v] h = some (some (.int v), h) := x_iret hc_139 dX8_claim_14 rfl
theorem x_139_15 {ls st : List Value} {h : Hp}  : ex 139 15 ls (st) h = gI (ldI ls 2) 139 16 ls st h := x_iload_n hc_139 dX8_claim_15 rfl rfl
theorem x_139_16 {ls st : List Value} {h : Hp} {x : Int32} : ex 139 16 ls (.int x :: st) h = if x < 0 then ex 139 24 ls st h else ex 139 19 ls st h := x_if_lt hc_139 dX8_claim_16 rfl (by decide)
theorem x_139_19 {ls st : List Value} {h : Hp}  : ex 139 19 ls (st) h = gI (ldI ls 2) 139 20 ls st h := x_iload_n hc_139 dX8_claim_19 rfl rfl
theorem x_139_20 {ls st : List Value} {h : Hp}  : ex 139 20 ls (st) h = ex 139 21 ls (.int (2) :: st) h := x_iconst hc_139 dX8_claim_20 rfl (by decide)
theorem x_139_21 {ls st : List Value} {h : Hp} {x z : Int32} : ex 139 21 ls (.int z :: .int x :: st) h = if z < x then ex 139 24 ls st h else ex 139 33 ls st h := x_icmp_le hc_139 dX8_claim_21 rfl (by decide)
theorem x_139_24 {ls st : List Value} {h : Hp}  : ex 139 24 ls (st) h = gA (ldA ls 0) 139 25 ls st h := x_aload_n hc_139 dX8_claim_24 rfl rfl
theorem x_139_25 {ls st : List Value} {h : Hp}  : ex 139 25 ls (st) h = ex 139 27 ls (.int (-7) :: st) h := x_bipush hc_139 dX8_claim_25 rfl (by decide)
theorem x_139_27 {ls st : List Value} {h : Hp} {k : Nat} {a0 : Int32} : ex 139 27 ls (.int a0 :: .ref k :: st) h = if kd k = 8 ∧ st.length ≤ 4 then gC (ex 92 0 [.ref k, .int a0] [] h) 139 30 ls st else none := x_callV (as := [.int a0]) hc_139 dX8_claim_27 rfl mr_8_148 rfl rfl rfl (by decide) (by decide)
theorem x_139_30 {ls st : List Value} {h : Hp}  : ex 139 30 ls (st) h = ex 139 43 ls st h := x_goto hc_139 dX8_claim_30 (by decide)
theorem x_139_33 {ls st : List Value} {h : Hp}  : ex 139 33 ls (st) h = gA (ldA ls 0) 139 34 ls st h := x_aload_n hc_139 dX8_claim_33 rfl rfl
theorem x_139_34 {ls st : List Value} {h : Hp} {k : Nat} : ex 139 34 ls (.ref k :: st) h = if kd k = 8 then ex 139 37 ls (vl h k 29 :: st) h else none := x_getf hc_139 dX8_claim_34 rfl fr_8_75
theorem x_139_37 {ls st : List Value} {h : Hp}  : ex 139 37 ls (st) h = ex 139 38 ls (.int (3) :: st) h := x_iconst hc_139 dX8_claim_37 rfl (by decide)
theorem x_139_38 {ls st : List Value} {h : Hp}  : ex 139 38 ls (st) h = gI (ldI ls 1) 139 39 ls st h := x_iload_n hc_139 dX8_claim_38 rfl rfl
theorem x_139_39 {ls st : List Value} {h : Hp} {a b : Int32} : ex 139 39 ls (.int b :: .int a :: st) h = ex 139 40 ls (.int (a * b) :: st) h := x_imul hc_139 dX8_claim_39 rfl
theorem x_139_40 {ls st : List Value} {h : Hp}  : ex 139 40 ls (st) h = gI (ldI ls 2) 139 41 ls st h := x_iload_n hc_139 dX8_claim_40 rfl rfl
theorem x_139_41 {ls st : List Value} {h : Hp} {a b : Int32} : ex 139 41 ls (.int b :: .int a :: st) h = ex 139 42 ls (.int (a + b) :: st) h := x_iadd hc_139 dX8_claim_41 rfl
theorem x_139_42 {ls st : List Value} {h : Hp} {k : Nat} {x : Int32} : ex 139 42 ls (.int x :: .ref k :: st) h = if kd k = 9 ∧ x.toNatClampNeg < ln k ∧ 0 ≤ x then ex 139 43 ls (.int (h k x.toNatClampNeg) :: st) h else none := x_iald hc_139 dX8_claim_42 rfl
theorem x_139_43 {ls : List Value} {h : Hp} {v : Int32} : ex 139 43 ls [.int v] h = some (some (.int v), h) := x_iret hc_139 dX8_claim_43 rfl
theorem x_140_0 {ls st : List Value} {h : Hp}  : ex 140 0 ls (st) h = gI (ldI ls 1) 140 1 ls st h := x_iload_n hc_140 dX8_count_0 rfl rfl
theorem x_140_1 {ls st : List Value} {h : Hp} {x : Int32} : ex 140 1 ls (.int x :: st) h = if x = 0 then ex 140 52 ls st h else if x = 1 then ex 140 57 ls st h else if x = 2 then ex 140 62 ls st h else if x = 3 then ex 140 67 ls st h else if x = 4 then ex 140 72 ls st h else if x = 5 then ex 140 77 ls st h else if x = 6 then ex 140 82 ls st h else if x = 7 then ex 140 87 ls st h else if x = 8 then ex 140 92 ls st h else ex 140 97 ls st h := by
  rw [x_tbl hc_140 dX8_count_1]
  by_cases h0 : x = 0
  · subst h0; rfl
  by_cases h1 : x = 1
  · subst h1; rfl
  by_cases h2 : x = 2
  · subst h2; rfl
  by_cases h3 : x = 3
  · subst h3; rfl
  by_cases h4 : x = 4
  · subst h4; rfl
  by_cases h5 : x = 5
  · subst h5; rfl
  by_cases h6 : x = 6
  · subst h6; rfl
  by_cases h7 : x = 7
  · subst h7; rfl
  by_cases h8 : x = 8
  · subst h8; rfl
  have hz : x.toInt < 0 ∨ 8 < x.toInt := by
    have e0 := lv_neT (a := 0) h0 (by decide)
    have e1 := lv_neT (a := 1) h1 (by decide)
    have e2 := lv_neT (a := 2) h2 (by decide)
    have e3 := lv_neT (a := 3) h3 (by decide)
    have e4 := lv_neT (a := 4) h4 (by decide)
    have e5 := lv_neT (a := 5) h5 (by decide)
    have e6 := lv_neT (a := 6) h6 (by decide)
    have e7 := lv_neT (a := 7) h7 (by decide)
    have e8 := lv_neT (a := 8) h8 (by decide)
    omega
  rw [if_pos hz, if_neg h0, if_neg h1, if_neg h2, if_neg h3, if_neg h4, if_neg h5, if_neg h6, if_neg h7, if_neg h8]
  rfl
theorem x_140_52 {ls st : List Value} {h : Hp}  : ex 140 52 ls (st) h = gA (ldA ls 0) 140 53 ls st h := x_aload_n hc_140 dX8_count_52 rfl rfl
theorem x_140_53 {ls st : List Value} {h : Hp} {k : Nat} : ex 140 53 ls (.ref k :: st) h = if kd k = 8 then ex 140 56 ls (vl h k 0 :: st) h else none := x_getf hc_140 dX8_count_53 rfl fr_8_262
theorem x_140_56 {ls : List Value} {h : Hp} {v : Int32} : ex 140 56 ls [.int v] h = some (some (.int v), h) := x_iret hc_140 dX8_count_56 rfl
theorem x_140_57 {ls st : List Value} {h : Hp}  : ex 140 57 ls (st) h = gA (ldA ls 0) 140 58 ls st h := x_aload_n hc_140 dX8_count_57 rfl rfl
theorem x_140_58 {ls st : List Value} {h : Hp} {k : Nat} : ex 140 58 ls (.ref k :: st) h = if kd k = 8 then ex 140 61 ls (vl h k 1 :: st) h else none := x_getf hc_140 dX8_count_58 rfl fr_8_7
theorem x_140_61 {ls : List Value} {h : Hp} {v : Int32} : ex 140 61 ls [.int v] h = some (some (.int v), h) := x_iret hc_140 dX8_count_61 rfl
theorem x_140_62 {ls st : List Value} {h : Hp}  : ex 140 62 ls (st) h = gA (ldA ls 0) 140 63 ls st h := x_aload_n hc_140 dX8_count_62 rfl rfl
theorem x_140_63 {ls st : List Value} {h : Hp} {k : Nat} : ex 140 63 ls (.ref k :: st) h = if kd k = 8 then ex 140 66 ls (vl h k 2 :: st) h else none := x_getf hc_140 dX8_count_63 rfl fr_8_145
theorem x_140_66 {ls : List Value} {h : Hp} {v : Int32} : ex 140 66 ls [.int v] h = some (some (.int v), h) := x_iret hc_140 dX8_count_66 rfl
theorem x_140_67 {ls st : List Value} {h : Hp}  : ex 140 67 ls (st) h = gA (ldA ls 0) 140 68 ls st h := x_aload_n hc_140 dX8_count_67 rfl rfl
theorem x_140_68 {ls st : List Value} {h : Hp} {k : Nat} : ex 140 68 ls (.ref k :: st) h = if kd k = 8 then ex 140 71 ls (vl h k 3 :: st) h else none := x_getf hc_140 dX8_count_68 rfl fr_8_233
theorem x_140_71 {ls : List Value} {h : Hp} {v : Int32} : ex 140 71 ls [.int v] h = some (some (.int v), h) := x_iret hc_140 dX8_count_71 rfl
theorem x_140_72 {ls st : List Value} {h : Hp}  : ex 140 72 ls (st) h = gA (ldA ls 0) 140 73 ls st h := x_aload_n hc_140 dX8_count_72 rfl rfl
theorem x_140_73 {ls st : List Value} {h : Hp} {k : Nat} : ex 140 73 ls (.ref k :: st) h = if kd k = 8 then ex 140 76 ls (vl h k 4 :: st) h else none := x_getf hc_140 dX8_count_73 rfl fr_8_185
theorem x_140_76 {ls : List Value} {h : Hp} {v : Int32} : ex 140 76 ls [.int v] h = some (some (.int v), h) := x_iret hc_140 dX8_count_76 rfl
theorem x_140_77 {ls st : List Value} {h : Hp}  : ex 140 77 ls (st) h = gA (ldA ls 0) 140 78 ls st h := x_aload_n hc_140 dX8_count_77 rfl rfl
theorem x_140_78 {ls st : List Value} {h : Hp} {k : Nat} : ex 140 78 ls (.ref k :: st) h = if kd k = 8 then ex 140 81 ls (vl h k 5 :: st) h else none := x_getf hc_140 dX8_count_78 rfl fr_8_171
theorem x_140_81 {ls : List Value} {h : Hp} {v : Int32} : ex 140 81 ls [.int v] h = some (some (.int v), h) := x_iret hc_140 dX8_count_81 rfl
theorem x_140_82 {ls st : List Value} {h : Hp}  : ex 140 82 ls (st) h = gA (ldA ls 0) 140 83 ls st h := x_aload_n hc_140 dX8_count_82 rfl rfl
theorem x_140_83 {ls st : List Value} {h : Hp} {k : Nat} : ex 140 83 ls (.ref k :: st) h = if kd k = 8 then ex 140 86 ls (vl h k 6 :: st) h else none := x_getf hc_140 dX8_count_83 rfl fr_8_253
theorem x_140_86 {ls : List Value} {h : Hp} {v : Int32} : ex 140 86 ls [.int v] h = some (some (.int v), h) := x_iret hc_140 dX8_count_86 rfl
theorem x_140_87 {ls st : List Value} {h : Hp}  : ex 140 87 ls (st) h = gA (ldA ls 0) 140 88 ls st h := x_aload_n hc_140 dX8_count_87 rfl rfl
theorem x_140_88 {ls st : List Value} {h : Hp} {k : Nat} : ex 140 88 ls (.ref k :: st) h = if kd k = 8 then ex 140 91 ls (vl h k 7 :: st) h else none := x_getf hc_140 dX8_count_88 rfl fr_8_280
theorem x_140_91 {ls : List Value} {h : Hp} {v : Int32} : ex 140 91 ls [.int v] h = some (some (.int v), h) := x_iret hc_140 dX8_count_91 rfl
theorem x_140_92 {ls st : List Value} {h : Hp}  : ex 140 92 ls (st) h = gA (ldA ls 0) 140 93 ls st h := x_aload_n hc_140 dX8_count_92 rfl rfl
theorem x_140_93 {ls st : List Value} {h : Hp} {k : Nat} : ex 140 93 ls (.ref k :: st) h = if kd k = 8 then ex 140 96 ls (vl h k 8 :: st) h else none := x_getf hc_140 dX8_count_93 rfl fr_8_283
theorem x_140_96 {ls : List Value} {h : Hp} {v : Int32} : ex 140 96 ls [.int v] h = some (some (.int v), h) := x_iret hc_140 dX8_count_96 rfl
theorem x_140_97 {ls st : List Value} {h : Hp}  : ex 140 97 ls (st) h = gA (ldA ls 0) 140 98 ls st h := x_aload_n hc_140 dX8_count_97 rfl rfl
theorem x_140_98 {ls st : List Value} {h : Hp}  : ex 140 98 ls (st) h = ex 140 100 ls (.int (-7) :: st) h := x_bipush hc_140 dX8_count_98 rfl (by decide)
theorem x_140_100 {ls st : List Value} {h : Hp} {k : Nat} {a0 : Int32} : ex 140 100 ls (.int a0 :: .ref k :: st) h = if kd k = 8 ∧ st.length ≤ 4 then gC (ex 92 0 [.ref k, .int a0] [] h) 140 103 ls st else none := x_callV (as := [.int a0]) hc_140 dX8_count_100 rfl mr_8_148 rfl rfl rfl (by decide) (by decide)
theorem x_140_103 {ls : List Value} {h : Hp} {v : Int32} : ex 140 103 ls [.int v] h = some (some (.int v), h) := x_iret hc_140 dX8_count_103 rfl
theorem x_141_0 {ls st : List Value} {h : Hp}  : ex 141 0 ls (st) h = gA (ldA ls 0) 141 1 ls st h := x_aload_n hc_141 dX8_at_0 rfl rfl
theorem x_141_1 {ls st : List Value} {h : Hp}  : ex 141 1 ls (st) h = gI (ldI ls 1) 141 2 ls st h := x_iload_n hc_141 dX8_at_1 rfl rfl
theorem x_141_2 {ls st : List Value} {h : Hp} {k : Nat} {a0 : Int32} : ex 141 2 ls (.int a0 :: .ref k :: st) h = if kd k = 8 ∧ st.length ≤ 4 then gC (ex 94 0 [.ref k, .int a0] [] h) 141 5 ls st else none := x_callV (as := [.int a0]) hc_141 dX8_at_2 rfl mr_8_152 rfl rfl rfl (by decide) (by decide)
theorem x_141_5 {ls st : List Value} {h : Hp} {x : Int32} : ex 141 5 ls (.int x :: st) h = if x = 0 then ex 141 8 ls st h else ex 141 15 ls st h := x_if_ne hc_141 dX8_at_5 rfl (by decide)
theorem x_141_8 {ls st : List Value} {h : Hp}  : ex 141 8 ls (st) h = gA (ldA ls 0) 141 9 ls st h := x_aload_n hc_141 dX8_at_8 rfl rfl
theorem x_141_9 {ls st : List Value} {h : Hp}  : ex 141 9 ls (st) h = ex 141 11 ls (.int (-3) :: st) h := x_bipush hc_141 dX8_at_9 rfl (by decide)
theorem x_141_11 {ls st : List Value} {h : Hp} {k : Nat} {a0 : Int32} : ex 141 11 ls (.int a0 :: .ref k :: st) h = if kd k = 8 ∧ st.length ≤ 4 then gC (ex 92 0 [.ref k, .int a0] [] h) 141 14 ls st else none := x_callV (as := [.int a0]) hc_141 dX8_at_11 rfl mr_8_148 rfl rfl rfl (by decide) (by decide)
theorem x_141_14 {ls : List Value} {h : Hp} {v : Int32} : ex 141 14 ls [.int v] h = some (some (.int v), h) := x_iret hc_141 dX8_at_14 rfl
theorem x_141_15 {ls st : List Value} {h : Hp}  : ex 141 15 ls (st) h = gI (ldI ls 2) 141 16 ls st h := x_iload_n hc_141 dX8_at_15 rfl rfl
theorem x_141_16 {ls st : List Value} {h : Hp} {x : Int32} : ex 141 16 ls (.int x :: st) h = if x = 0 then ex 141 52 ls st h else if x = 1 then ex 141 59 ls st h else if x = 2 then ex 141 66 ls st h else if x = 3 then ex 141 73 ls st h else if x = 4 then ex 141 80 ls st h else ex 141 101 ls st h := by
  rw [x_tbl hc_141 dX8_at_16]
  by_cases h0 : x = 0
  · subst h0; rfl
  by_cases h1 : x = 1
  · subst h1; rfl
  by_cases h2 : x = 2
  · subst h2; rfl
  by_cases h3 : x = 3
  · subst h3; rfl
  by_cases h4 : x = 4
  · subst h4; rfl
  have hz : x.toInt < 0 ∨ 4 < x.toInt := by
    have e0 := lv_neT (a := 0) h0 (by decide)
    have e1 := lv_neT (a := 1) h1 (by decide)
    have e2 := lv_neT (a := 2) h2 (by decide)
    have e3 := lv_neT (a := 3) h3 (by decide)
    have e4 := lv_neT (a := 4) h4 (by decide)
    omega
  rw [if_pos hz, if_neg h0, if_neg h1, if_neg h2, if_neg h3, if_neg h4]
  rfl
theorem x_141_52 {ls st : List Value} {h : Hp}  : ex 141 52 ls (st) h = gA (ldA ls 0) 141 53 ls st h := x_aload_n hc_141 dX8_at_52 rfl rfl
theorem x_141_53 {ls st : List Value} {h : Hp} {k : Nat} : ex 141 53 ls (.ref k :: st) h = if kd k = 8 then ex 141 56 ls (vl h k 10 :: st) h else none := x_getf hc_141 dX8_at_53 rfl fr_8_17
theorem x_141_56 {ls st : List Value} {h : Hp}  : ex 141 56 ls (st) h = gI (ldI ls 1) 141 57 ls st h := x_iload_n hc_141 dX8_at_56 rfl rfl
theorem x_141_57 {ls st : List Value} {h : Hp} {k : Nat} {x : Int32} : ex 141 57 ls (.int x :: .ref k :: st) h = if kd k = 9 ∧ x.toNatClampNeg < ln k ∧ 0 ≤ x then ex 141 58 ls (.int (h k x.toNatClampNeg) :: st) h else none := x_iald hc_141 dX8_at_57 rfl
theorem x_141_58 {ls : List Value} {h : Hp} {v : Int32} : ex 141 58 ls [.int v] h = some (some (.int v), h) := x_iret hc_141 dX8_at_58 rfl
theorem x_141_59 {ls st : List Value} {h : Hp}  : ex 141 59 ls (st) h = gA (ldA ls 0) 141 60 ls st h := x_aload_n hc_141 dX8_at_59 rfl rfl
theorem x_141_60 {ls st : List Value} {h : Hp} {k : Nat} : ex 141 60 ls (.ref k :: st) h = if kd k = 8 then ex 141 63 ls (vl h k 11 :: st) h else none := x_getf hc_141 dX8_at_60 rfl fr_8_20
theorem x_141_63 {ls st : List Value} {h : Hp}  : ex 141 63 ls (st) h = gI (ldI ls 1) 141 64 ls st h := x_iload_n hc_141 dX8_at_63 rfl rfl
theorem x_141_64 {ls st : List Value} {h : Hp} {k : Nat} {x : Int32} : ex 141 64 ls (.int x :: .ref k :: st) h = if kd k = 9 ∧ x.toNatClampNeg < ln k ∧ 0 ≤ x then ex 141 65 ls (.int (h k x.toNatClampNeg) :: st) h else none := x_iald hc_141 dX8_at_64 rfl
theorem x_141_65 {ls : List Value} {h : Hp} {v : Int32} : ex 141 65 ls [.int v] h = some (some (.int v), h) := x_iret hc_141 dX8_at_65 rfl
theorem x_141_66 {ls st : List Value} {h : Hp}  : ex 141 66 ls (st) h = gA (ldA ls 0) 141 67 ls st h := x_aload_n hc_141 dX8_at_66 rfl rfl
theorem x_141_67 {ls st : List Value} {h : Hp} {k : Nat} : ex 141 67 ls (.ref k :: st) h = if kd k = 8 then ex 141 70 ls (vl h k 12 :: st) h else none := x_getf hc_141 dX8_at_67 rfl fr_8_23
theorem x_141_70 {ls st : List Value} {h : Hp}  : ex 141 70 ls (st) h = gI (ldI ls 1) 141 71 ls st h := x_iload_n hc_141 dX8_at_70 rfl rfl
theorem x_141_71 {ls st : List Value} {h : Hp} {k : Nat} {x : Int32} : ex 141 71 ls (.int x :: .ref k :: st) h = if kd k = 9 ∧ x.toNatClampNeg < ln k ∧ 0 ≤ x then ex 141 72 ls (.int (h k x.toNatClampNeg) :: st) h else none := x_iald hc_141 dX8_at_71 rfl
theorem x_141_72 {ls : List Value} {h : Hp} {v : Int32} : ex 141 72 ls [.int v] h = some (some (.int v), h) := x_iret hc_141 dX8_at_72 rfl
theorem x_141_73 {ls st : List Value} {h : Hp}  : ex 141 73 ls (st) h = gA (ldA ls 0) 141 74 ls st h := x_aload_n hc_141 dX8_at_73 rfl rfl
theorem x_141_74 {ls st : List Value} {h : Hp} {k : Nat} : ex 141 74 ls (.ref k :: st) h = if kd k = 8 then ex 141 77 ls (vl h k 13 :: st) h else none := x_getf hc_141 dX8_at_74 rfl fr_8_26
theorem x_141_77 {ls st : List Value} {h : Hp}  : ex 141 77 ls (st) h = gI (ldI ls 1) 141 78 ls st h := x_iload_n hc_141 dX8_at_77 rfl rfl
theorem x_141_78 {ls st : List Value} {h : Hp} {k : Nat} {x : Int32} : ex 141 78 ls (.int x :: .ref k :: st) h = if kd k = 9 ∧ x.toNatClampNeg < ln k ∧ 0 ≤ x then ex 141 79 ls (.int (h k x.toNatClampNeg) :: st) h else none := x_iald hc_141 dX8_at_78 rfl
theorem x_141_79 {ls : List Value} {h : Hp} {v : Int32} : ex 141 79 ls [.int v] h = some (some (.int v), h) := x_iret hc_141 dX8_at_79 rfl
theorem x_141_80 {ls st : List Value} {h : Hp}  : ex 141 80 ls (st) h = gI (ldI ls 1) 141 81 ls st h := x_iload_n hc_141 dX8_at_80 rfl rfl
theorem x_141_81 {ls st : List Value} {h : Hp}  : ex 141 81 ls (st) h = gA (ldA ls 0) 141 82 ls st h := x_aload_n hc_141 dX8_at_81 rfl rfl
theorem x_141_82 {ls st : List Value} {h : Hp} {k : Nat} : ex 141 82 ls (.ref k :: st) h = if kd k = 8 then ex 141 85 ls (vl h k 1 :: st) h else none := x_getf hc_141 dX8_at_82 rfl fr_8_7
theorem x_141_85 {ls st : List Value} {h : Hp}  : ex 141 85 ls (st) h = ex 141 86 ls (.int (1) :: st) h := x_iconst hc_141 dX8_at_85 rfl (by decide)
theorem x_141_86 {ls st : List Value} {h : Hp} {a b : Int32} : ex 141 86 ls (.int b :: .int a :: st) h = ex 141 87 ls (.int (a - b) :: st) h := x_isub hc_141 dX8_at_86 rfl
theorem x_141_87 {ls st : List Value} {h : Hp} {x z : Int32} : ex 141 87 ls (.int z :: .int x :: st) h = if x = z then ex 141 90 ls st h else ex 141 94 ls st h := x_icmp_ne hc_141 dX8_at_87 rfl (by decide)
theorem x_141_90 {ls st : List Value} {h : Hp}  : ex 141 90 ls (st) h = ex 141 91 ls (.int (-1) :: st) h := x_iconst hc_141 dX8_at_90 rfl (by decide)
theorem x_141_91 {ls st : List Value} {h : Hp}  : ex 141 91 ls (st) h = ex 141 100 ls st h := x_goto hc_141 dX8_at_91 (by decide)
theorem x_141_94 {ls st : List Value} {h : Hp}  : ex 141 94 ls (st) h = gA (ldA ls 0) 141 95 ls st h := x_aload_n hc_141 dX8_at_94 rfl rfl
theorem x_141_95 {ls st : List Value} {h : Hp} {k : Nat} : ex 141 95 ls (.ref k :: st) h = if kd k = 8 then ex 141 98 ls (vl h k 9 :: st) h else none := x_getf hc_141 dX8_at_95 rfl fr_8_13
theorem x_141_98 {ls st : List Value} {h : Hp}  : ex 141 98 ls (st) h = gI (ldI ls 1) 141 99 ls st h := x_iload_n hc_141 dX8_at_98 rfl rfl
theorem x_141_99 {ls st : List Value} {h : Hp} {k : Nat} {x : Int32} : ex 141 99 ls (.int x :: .ref k :: st) h = if kd k = 9 ∧ x.toNatClampNeg < ln k ∧ 0 ≤ x then ex 141 100 ls (.int (h k x.toNatClampNeg) :: st) h else none := x_iald hc_141 dX8_at_99 rfl
theorem x_141_100 {ls : List Value} {h : Hp} {v : Int32} : ex 141 100 ls [.int v] h = some (some (.int v), h) := x_iret hc_141 dX8_at_100 rfl
theorem x_141_101 {ls st : List Value} {h : Hp}  : ex 141 101 ls (st) h = gA (ldA ls 0) 141 102 ls st h := x_aload_n hc_141 dX8_at_101 rfl rfl
theorem x_141_102 {ls st : List Value} {h : Hp}  : ex 141 102 ls (st) h = ex 141 104 ls (.int (-7) :: st) h := x_bipush hc_141 dX8_at_102 rfl (by decide)
theorem x_141_104 {ls st : List Value} {h : Hp} {k : Nat} {a0 : Int32} : ex 141 104 ls (.int a0 :: .ref k :: st) h = if kd k = 8 ∧ st.length ≤ 4 then gC (ex 92 0 [.ref k, .int a0] [] h) 141 107 ls st else none := x_callV (as := [.int a0]) hc_141 dX8_at_104 rfl mr_8_148 rfl rfl rfl (by decide) (by decide)
theorem x_141_107 {ls : List Value} {h : Hp} {v : Int32} : ex 141 107 ls [.int v] h = some (some (.int v), h) := x_iret hc_141 dX8_at_107 rfl
theorem x_142_0 {ls st : List Value} {h : Hp}  : ex 142 0 ls (st) h = gI (ldI ls 1) 142 1 ls st h := x_iload_n hc_142 dX8_tell_0 rfl rfl
theorem x_142_1 {ls st : List Value} {h : Hp} {x : Int32} : ex 142 1 ls (.int x :: st) h = if x < 0 then ex 142 10 ls st h else ex 142 4 ls st h := x_if_lt hc_142 dX8_tell_1 rfl (by decide)
theorem x_142_4 {ls st : List Value} {h : Hp}  : ex 142 4 ls (st) h = gI (ldI ls 1) 142 5 ls st h := x_iload_n hc_142 dX8_tell_4 rfl rfl
theorem x_142_5 {ls st : List Value} {h : Hp}  : ex 142 5 ls (st) h = ex 142 7 ls (.int (47) :: st) h := x_bipush hc_142 dX8_tell_5 rfl (by decide)
theorem x_142_7 {ls st : List Value} {h : Hp} {x z : Int32} : ex 142 7 ls (.int z :: .int x :: st) h = if z < x then ex 142 10 ls st h else ex 142 17 ls st h := x_icmp_le hc_142 dX8_tell_7 rfl (by decide)
theorem x_142_10 {ls st : List Value} {h : Hp}  : ex 142 10 ls (st) h = gA (ldA ls 0) 142 11 ls st h := x_aload_n hc_142 dX8_tell_10 rfl rfl
theorem x_142_11 {ls st : List Value} {h : Hp}  : ex 142 11 ls (st) h = ex 142 13 ls (.int (-3) :: st) h := x_bipush hc_142 dX8_tell_11 rfl (by decide)
theorem x_142_13 {ls st : List Value} {h : Hp} {k : Nat} {a0 : Int32} : ex 142 13 ls (.int a0 :: .ref k :: st) h = if kd k = 8 ∧ st.length ≤ 4 then gC (ex 92 0 [.ref k, .int a0] [] h) 142 16 ls st else none := x_callV (as := [.int a0]) hc_142 dX8_tell_13 rfl mr_8_148 rfl rfl rfl (by decide) (by decide)
theorem x_142_16 {ls : List Value} {h : Hp} {v : Int32} : ex 142 16 ls [.int v] h = some (some (.int v), h) := x_iret hc_142 dX8_tell_16 rfl
theorem x_142_17 {ls st : List Value} {h : Hp}  : ex 142 17 ls (st) h = gI (ldI ls 2) 142 18 ls st h := x_iload_n hc_142 dX8_tell_17 rfl rfl
theorem x_142_18 {ls st : List Value} {h : Hp}  : ex 142 18 ls (st) h = ex 142 21 ls (.int (-9999) :: st) h := x_sipush hc_142 dX8_tell_18 rfl (by decide)
theorem x_142_21 {ls st : List Value} {h : Hp} {x z : Int32} : ex 142 21 ls (.int z :: .int x :: st) h = if x < z then ex 142 31 ls st h else ex 142 24 ls st h := x_icmp_lt hc_142 dX8_tell_21 rfl (by decide)
theorem x_142_24 {ls st : List Value} {h : Hp}  : ex 142 24 ls (st) h = gI (ldI ls 2) 142 25 ls st h := x_iload_n hc_142 dX8_tell_24 rfl rfl
theorem x_142_25 {ls st : List Value} {h : Hp}  : ex 142 25 ls (st) h = ex 142 28 ls (.int (9999) :: st) h := x_sipush hc_142 dX8_tell_25 rfl (by decide)
theorem x_142_28 {ls st : List Value} {h : Hp} {x z : Int32} : ex 142 28 ls (.int z :: .int x :: st) h = if z < x then ex 142 31 ls st h else ex 142 38 ls st h := x_icmp_le hc_142 dX8_tell_28 rfl (by decide)
theorem x_142_31 {ls st : List Value} {h : Hp}  : ex 142 31 ls (st) h = gA (ldA ls 0) 142 32 ls st h := x_aload_n hc_142 dX8_tell_31 rfl rfl
theorem x_142_32 {ls st : List Value} {h : Hp}  : ex 142 32 ls (st) h = ex 142 34 ls (.int (-7) :: st) h := x_bipush hc_142 dX8_tell_32 rfl (by decide)
theorem x_142_34 {ls st : List Value} {h : Hp} {k : Nat} {a0 : Int32} : ex 142 34 ls (.int a0 :: .ref k :: st) h = if kd k = 8 ∧ st.length ≤ 4 then gC (ex 92 0 [.ref k, .int a0] [] h) 142 37 ls st else none := x_callV (as := [.int a0]) hc_142 dX8_tell_34 rfl mr_8_148 rfl rfl rfl (by decide) (by decide)
theorem x_142_37 {ls : List Value} {h : Hp} {v : Int32} : ex 142 37 ls [.int v] h = some (some (.int v), h) := x_iret hc_142 dX8_tell_37 rfl
theorem x_142_38 {ls st : List Value} {h : Hp}  : ex 142 38 ls (st) h = gA (ldA ls 0) 142 39 ls st h := x_aload_n hc_142 dX8_tell_38 rfl rfl
theorem x_142_39 {ls st : List Value} {h : Hp}  : ex 142 39 ls (st) h = ex 142 40 ls (.int (1) :: st) h := x_iconst hc_142 dX8_tell_39 rfl (by decide)
theorem x_142_40 {ls st : List Value} {h : Hp} {k : Nat} {x : Int32} : ex 142 40 ls (.int x :: .ref k :: st) h = if kd k = 8 ∧ (x = 0 ∨ x = 1) then ex 142 43 ls st (hu h k 51 x) else none := x_putz hc_142 dX8_tell_40 rfl fr_8_160 (by decide)
theorem x_142_43 {ls st : List Value} {h : Hp}  : ex 142 43 ls (st) h = gA (ldA ls 0) 142 44 ls st h := x_aload_n hc_142 dX8_tell_43 rfl rfl
theorem x_142_44 {ls st : List Value} {h : Hp} {k : Nat} : ex 142 44 ls (.ref k :: st) h = if kd k = 8 then ex 142 47 ls (vl h k 48 :: st) h else none := x_getf hc_142 dX8_tell_44 rfl fr_8_129
theorem x_142_47 {ls st : List Value} {h : Hp}  : ex 142 47 ls (st) h = gI (ldI ls 1) 142 48 ls st h := x_iload_n hc_142 dX8_tell_47 rfl rfl
theorem x_142_48 {ls st : List Value} {h : Hp}  : ex 142 48 ls (st) h = gI (ldI ls 2) 142 49 ls st h := x_iload_n hc_142 dX8_tell_48 rfl rfl
theorem x_142_49 {ls st : List Value} {h : Hp} {k : Nat} {x u : Int32} : ex 142 49 ls (.int u :: .int x :: .ref k :: st) h = if kd k = 9 ∧ x.toNatClampNeg < ln k ∧ 0 ≤ x then ex 142 50 ls st (hu h k x.toNatClampNeg u) else none := x_iast hc_142 dX8_tell_49 rfl
theorem x_142_50 {ls st : List Value} {h : Hp}  : ex 142 50 ls (st) h = ex 142 51 ls (.int (1) :: st) h := x_iconst hc_142 dX8_tell_50 rfl (by decide)
theorem x_142_51 {ls : List Value} {h : Hp} {v : Int32} : ex 142 51 ls [.int v] h = some (some (.int v), h) := x_iret hc_142 dX8_tell_51 rfl
theorem x_143_0 {ls st : List Value} {h : Hp}  : ex 143 0 ls (st) h = gA (ldA ls 0) 143 1 ls st h := x_aload_n hc_143 dX8_tear_0 rfl rfl
theorem x_143_1 {ls st : List Value} {h : Hp} {k : Nat} : ex 143 1 ls (.ref k :: st) h = if kd k = 8 then ex 143 4 ls (vl h k 51 :: st) h else none := x_getf hc_143 dX8_tear_1 rfl fr_8_160
theorem x_143_4 {ls st : List Value} {h : Hp} {x : Int32} : ex 143 4 ls (.int x :: st) h = ex 143 5 (ls.set 1 (.int x)) st h := x_istore_n hc_143 dX8_tear_4 rfl rfl (by decide)
theorem x_143_5 {ls st : List Value} {h : Hp}  : ex 143 5 ls (st) h = gA (ldA ls 0) 143 6 ls st h := x_aload_n hc_143 dX8_tear_5 rfl rfl
theorem x_143_6 {ls st : List Value} {h : Hp}  : ex 143 6 ls (st) h = ex 143 7 ls (.int (0) :: st) h := x_iconst hc_143 dX8_tear_6 rfl (by decide)
theorem x_143_7 {ls st : List Value} {h : Hp} {k : Nat} {x : Int32} : ex 143 7 ls (.int x :: .ref k :: st) h = if kd k = 8 ∧ (x = 0 ∨ x = 1) then ex 143 10 ls st (hu h k 51 x) else none := x_putz hc_143 dX8_tear_7 rfl fr_8_160 (by decide)
theorem x_143_10 {ls st : List Value} {h : Hp}  : ex 143 10 ls (st) h = ex 143 11 ls (.int (0) :: st) h := x_iconst hc_143 dX8_tear_10 rfl (by decide)
theorem x_143_11 {ls st : List Value} {h : Hp} {x : Int32} : ex 143 11 ls (.int x :: st) h = ex 143 12 (ls.set 2 (.int x)) st h := x_istore_n hc_143 dX8_tear_11 rfl rfl (by decide)
theorem x_143_12 {ls st : List Value} {h : Hp}  : ex 143 12 ls (st) h = gI (ldI ls 2) 143 13 ls st h := x_iload_n hc_143 dX8_tear_12 rfl rfl
theorem x_143_13 {ls st : List Value} {h : Hp}  : ex 143 13 ls (st) h = ex 143 15 ls (.int (48) :: st) h := x_bipush hc_143 dX8_tear_13 rfl (by decide)
theorem x_143_15 {ls st : List Value} {h : Hp} {x z : Int32} : ex 143 15 ls (.int z :: .int x :: st) h = if x < z then ex 143 18 ls st h else ex 143 31 ls st h := x_icmp_ge hc_143 dX8_tear_15 rfl (by decide)
theorem x_143_18 {ls st : List Value} {h : Hp}  : ex 143 18 ls (st) h = gA (ldA ls 0) 143 19 ls st h := x_aload_n hc_143 dX8_tear_18 rfl rfl
theorem x_143_19 {ls st : List Value} {h : Hp} {k : Nat} : ex 143 19 ls (.ref k :: st) h = if kd k = 8 then ex 143 22 ls (vl h k 48 :: st) h else none := x_getf hc_143 dX8_tear_19 rfl fr_8_129
theorem x_143_22 {ls st : List Value} {h : Hp}  : ex 143 22 ls (st) h = gI (ldI ls 2) 143 23 ls st h := x_iload_n hc_143 dX8_tear_22 rfl rfl
theorem x_143_23 {ls st : List Value} {h : Hp}  : ex 143 23 ls (st) h = ex 143 24 ls (.int (0) :: st) h := x_iconst hc_143 dX8_tear_23 rfl (by decide)
theorem x_143_24 {ls st : List Value} {h : Hp} {k : Nat} {x u : Int32} : ex 143 24 ls (.int u :: .int x :: .ref k :: st) h = if kd k = 9 ∧ x.toNatClampNeg < ln k ∧ 0 ≤ x then ex 143 25 ls st (hu h k x.toNatClampNeg u) else none := x_iast hc_143 dX8_tear_24 rfl
theorem x_143_25 {ls st : List Value} {h : Hp}  : ex 143 25 ls (st) h = gN (ldI ls 2) 143 28 ls 2 (1) st h := x_iinc hc_143 dX8_tear_25 rfl (by decide) (by decide)
theorem x_143_28 {ls st : List Value} {h : Hp}  : ex 143 28 ls (st) h = ex 143 12 ls st h := x_goto hc_143 dX8_tear_28 (by decide)
theorem x_143_31 {ls st : List Value} {h : Hp}  : ex 143 31 ls (st) h = gI (ldI ls 1) 143 32 ls st h := x_iload_n hc_143 dX8_tear_31 rfl rfl
theorem x_143_32 {ls st : List Value} {h : Hp} {x : Int32} : ex 143 32 ls (.int x :: st) h = if x = 0 then ex 143 39 ls st h else ex 143 35 ls st h := x_if_eq hc_143 dX8_tear_32 rfl (by decide)
theorem x_143_35 {ls st : List Value} {h : Hp}  : ex 143 35 ls (st) h = ex 143 36 ls (.int (1) :: st) h := x_iconst hc_143 dX8_tear_35 rfl (by decide)
theorem x_143_36 {ls st : List Value} {h : Hp}  : ex 143 36 ls (st) h = ex 143 40 ls st h := x_goto hc_143 dX8_tear_36 (by decide)
theorem x_143_39 {ls st : List Value} {h : Hp}  : ex 143 39 ls (st) h = ex 143 40 ls (.int (0) :: st) h := x_iconst hc_143 dX8_tear_39 rfl (by decide)
theorem x_143_40 {ls : List Value} {h : Hp} {v : Int32} : ex 143 40 ls [.int v] h = some (some (.int v), h) := x_iret hc_143 dX8_tear_40 rfl
theorem x_144_0 {ls st : List Value} {h : Hp}  : ex 144 0 ls (st) h = gA (ldA ls 0) 144 1 ls st h := x_aload_n hc_144 dX8_row_0 rfl rfl
theorem x_144_1 {ls st : List Value} {h : Hp} {k : Nat} : ex 144 1 ls (.ref k :: st) h = if kd k = 8 then ex 144 4 ls (vl h k 51 :: st) h else none := x_getf hc_144 dX8_row_1 rfl fr_8_160
theorem x_144_4 {ls st : List Value} {h : Hp} {x : Int32} : ex 144 4 ls (.int x :: st) h = if x = 0 then ex 144 7 ls st h else ex 144 14 ls st h := x_if_ne hc_144 dX8_row_4 rfl (by decide)
theorem x_144_7 {ls st : List Value} {h : Hp}  : ex 144 7 ls (st) h = gA (ldA ls 0) 144 8 ls st h := x_aload_n hc_144 dX8_row_7 rfl rfl
theorem x_144_8 {ls st : List Value} {h : Hp}  : ex 144 8 ls (st) h = ex 144 10 ls (.int (-2) :: st) h := x_bipush hc_144 dX8_row_8 rfl (by decide)
theorem x_144_10 {ls st : List Value} {h : Hp} {k : Nat} {a0 : Int32} : ex 144 10 ls (.int a0 :: .ref k :: st) h = if kd k = 8 ∧ st.length ≤ 4 then gC (ex 98 0 [.ref k, .int a0] [] h) 144 13 ls st else none := x_callV (as := [.int a0]) hc_144 dX8_row_10 rfl mr_8_157 rfl rfl rfl (by decide) (by decide)
theorem x_144_13 {ls : List Value} {h : Hp} {v : Int32} : ex 144 13 ls [.int v] h = some (some (.int v), h) := x_iret hc_144 dX8_row_13 rfl
theorem x_144_14 {ls st : List Value} {h : Hp}  : ex 144 14 ls (st) h = gI (ldI ls 1) 144 15 ls st h := x_iload_n hc_144 dX8_row_14 rfl rfl
theorem x_144_15 {ls st : List Value} {h : Hp} {x : Int32} : ex 144 15 ls (.int x :: st) h = if x < 0 then ex 144 24 ls st h else ex 144 18 ls st h := x_if_lt hc_144 dX8_row_15 rfl (by decide)
theorem x_144_18 {ls st : List Value} {h : Hp}  : ex 144 18 ls (st) h = gI (ldI ls 1) 144 19 ls st h := x_iload_n hc_144 dX8_row_18 rfl rfl
theorem x_144_19 {ls st : List Value} {h : Hp}  : ex 144 19 ls (st) h = ex 144 21 ls (.int (47) :: st) h := x_bipush hc_144 dX8_row_19 rfl (by decide)
theorem x_144_21 {ls st : List Value} {h : Hp} {x z : Int32} : ex 144 21 ls (.int z :: .int x :: st) h = if z < x then ex 144 24 ls st h else ex 144 33 ls st h := x_icmp_le hc_144 dX8_row_21 rfl (by decide)
theorem x_144_24 {ls st : List Value} {h : Hp}  : ex 144 24 ls (st) h = gA (ldA ls 0) 144 25 ls st h := x_aload_n hc_144 dX8_row_24 rfl rfl
theorem x_144_25 {ls st : List Value} {h : Hp}  : ex 144 25 ls (st) h = ex 144 27 ls (.int (-3) :: st) h := x_bipush hc_144 dX8_row_25 rfl (by decide)
theorem x_144_27 {ls st : List Value} {h : Hp} {k : Nat} {a0 : Int32} : ex 144 27 ls (.int a0 :: .ref k :: st) h = if kd k = 8 ∧ st.length ≤ 4 then gC (ex 98 0 [.ref k, .int a0] [] h) 144 30 ls st else none := x_callV (as := [.int a0]) hc_144 dX8_row_27 rfl mr_8_157 rfl rfl rfl (by decide) (by decide)
theorem x_144_30 {ls st : List Value} {h : Hp}  : ex 144 30 ls (st) h = ex 144 39 ls st h := x_goto hc_144 dX8_row_30 (by decide)
theorem x_144_33 {ls st : List Value} {h : Hp}  : ex 144 33 ls (st) h = gA (ldA ls 0) 144 34 ls st h := x_aload_n hc_144 dX8_row_33 rfl rfl
theorem x_144_34 {ls st : List Value} {h : Hp} {k : Nat} : ex 144 34 ls (.ref k :: st) h = if kd k = 8 then ex 144 37 ls (vl h k 48 :: st) h else none := x_getf hc_144 dX8_row_34 rfl fr_8_129
theorem x_144_37 {ls st : List Value} {h : Hp}  : ex 144 37 ls (st) h = gI (ldI ls 1) 144 38 ls st h := x_iload_n hc_144 dX8_row_37 rfl rfl
theorem x_144_38 {ls st : List Value} {h : Hp} {k : Nat} {x : Int32} : ex 144 38 ls (.int x :: .ref k :: st) h = if kd k = 9 ∧ x.toNatClampNeg < ln k ∧ 0 ≤ x then ex 144 39 ls (.int (h k x.toNatClampNeg) :: st) h else none := x_iald hc_144 dX8_row_38 rfl
theorem x_144_39 {ls : List Value} {h : Hp} {v : Int32} : ex 144 39 ls [.int v] h = some (some (.int v), h) := x_iret hc_144 dX8_row_39 rfl
theorem x_145_0 {ls st : List Value} {h : Hp}  : ex 145 0 ls (st) h = gA (ldA ls 0) 145 1 ls st h := x_aload_n hc_145 dX8_copy_0 rfl rfl
theorem x_145_1 {ls st : List Value} {h : Hp} {k : Nat} : ex 145 1 ls (.ref k :: st) h = if kd k = 8 then ex 145 4 ls (vl h k 51 :: st) h else none := x_getf hc_145 dX8_copy_1 rfl fr_8_160
theorem x_145_4 {ls st : List Value} {h : Hp} {x : Int32} : ex 145 4 ls (.int x :: st) h = if x = 0 then ex 145 7 ls st h else ex 145 14 ls st h := x_if_ne hc_145 dX8_copy_4 rfl (by decide)
theorem x_145_7 {ls st : List Value} {h : Hp}  : ex 145 7 ls (st) h = gA (ldA ls 0) 145 8 ls st h := x_aload_n hc_145 dX8_copy_7 rfl rfl
theorem x_145_8 {ls st : List Value} {h : Hp}  : ex 145 8 ls (st) h = ex 145 10 ls (.int (-2) :: st) h := x_bipush hc_145 dX8_copy_8 rfl (by decide)
theorem x_145_10 {ls st : List Value} {h : Hp} {k : Nat} {a0 : Int32} : ex 145 10 ls (.int a0 :: .ref k :: st) h = if kd k = 8 ∧ st.length ≤ 4 then gC (ex 92 0 [.ref k, .int a0] [] h) 145 13 ls st else none := x_callV (as := [.int a0]) hc_145 dX8_copy_10 rfl mr_8_148 rfl rfl rfl (by decide) (by decide)
theorem x_145_13 {ls : List Value} {h : Hp} {v : Int32} : ex 145 13 ls [.int v] h = some (some (.int v), h) := x_iret hc_145 dX8_copy_13 rfl
theorem x_145_14 {ls st : List Value} {h : Hp}  : ex 145 14 ls (st) h = gI (ldI ls 3) 145 15 ls st h := x_iload_n hc_145 dX8_copy_14 rfl rfl
theorem x_145_15 {ls st : List Value} {h : Hp} {x : Int32} : ex 145 15 ls (.int x :: st) h = if x < 0 then ex 145 18 ls st h else ex 145 25 ls st h := x_if_ge hc_145 dX8_copy_15 rfl (by decide)
theorem x_145_18 {ls st : List Value} {h : Hp}  : ex 145 18 ls (st) h = gA (ldA ls 0) 145 19 ls st h := x_aload_n hc_145 dX8_copy_18 rfl rfl
theorem x_145_19 {ls st : List Value} {h : Hp}  : ex 145 19 ls (st) h = ex 145 21 ls (.int (-4) :: st) h := x_bipush hc_145 dX8_copy_19 rfl (by decide)
theorem x_145_21 {ls st : List Value} {h : Hp} {k : Nat} {a0 : Int32} : ex 145 21 ls (.int a0 :: .ref k :: st) h = if kd k = 8 ∧ st.length ≤ 4 then gC (ex 92 0 [.ref k, .int a0] [] h) 145 24 ls st else none := x_callV (as := [.int a0]) hc_145 dX8_copy_21 rfl mr_8_148 rfl rfl rfl (by decide) (by decide)
theorem x_145_24 {ls : List Value} {h : Hp} {v : Int32} : ex 145 24 ls [.int v] h = some (some (.int v), h) := x_iret hc_145 dX8_copy_24 rfl
theorem x_145_25 {ls st : List Value} {h : Hp}  : ex 145 25 ls (st) h = gI (ldI ls 1) 145 26 ls st h := x_iload_n hc_145 dX8_copy_25 rfl rfl
theorem x_145_26 {ls st : List Value} {h : Hp} {x : Int32} : ex 145 26 ls (.int x :: st) h = if x < 0 then ex 145 49 ls st h else ex 145 29 ls st h := x_if_lt hc_145 dX8_copy_26 rfl (by decide)
theorem x_145_29 {ls st : List Value} {h : Hp}  : ex 145 29 ls (st) h = gI (ldI ls 2) 145 30 ls st h := x_iload_n hc_145 dX8_copy_29 rfl rfl
theorem x_145_30 {ls st : List Value} {h : Hp} {x : Int32} : ex 145 30 ls (.int x :: st) h = if x < 0 then ex 145 49 ls st h else ex 145 33 ls st h := x_if_lt hc_145 dX8_copy_30 rfl (by decide)
theorem x_145_33 {ls st : List Value} {h : Hp}  : ex 145 33 ls (st) h = gI (ldI ls 1) 145 34 ls st h := x_iload_n hc_145 dX8_copy_33 rfl rfl
theorem x_145_34 {ls st : List Value} {h : Hp}  : ex 145 34 ls (st) h = ex 145 36 ls (.int (48) :: st) h := x_bipush hc_145 dX8_copy_34 rfl (by decide)
theorem x_145_36 {ls st : List Value} {h : Hp}  : ex 145 36 ls (st) h = gI (ldI ls 3) 145 37 ls st h := x_iload_n hc_145 dX8_copy_36 rfl rfl
theorem x_145_37 {ls st : List Value} {h : Hp} {a b : Int32} : ex 145 37 ls (.int b :: .int a :: st) h = ex 145 38 ls (.int (a - b) :: st) h := x_isub hc_145 dX8_copy_37 rfl
theorem x_145_38 {ls st : List Value} {h : Hp} {x z : Int32} : ex 145 38 ls (.int z :: .int x :: st) h = if z < x then ex 145 49 ls st h else ex 145 41 ls st h := x_icmp_gt hc_145 dX8_copy_38 rfl (by decide)
theorem x_145_41 {ls st : List Value} {h : Hp}  : ex 145 41 ls (st) h = gI (ldI ls 2) 145 42 ls st h := x_iload_n hc_145 dX8_copy_41 rfl rfl
theorem x_145_42 {ls st : List Value} {h : Hp}  : ex 145 42 ls (st) h = ex 145 44 ls (.int (48) :: st) h := x_bipush hc_145 dX8_copy_42 rfl (by decide)
theorem x_145_44 {ls st : List Value} {h : Hp}  : ex 145 44 ls (st) h = gI (ldI ls 3) 145 45 ls st h := x_iload_n hc_145 dX8_copy_44 rfl rfl
theorem x_145_45 {ls st : List Value} {h : Hp} {a b : Int32} : ex 145 45 ls (.int b :: .int a :: st) h = ex 145 46 ls (.int (a - b) :: st) h := x_isub hc_145 dX8_copy_45 rfl
theorem x_145_46 {ls st : List Value} {h : Hp} {x z : Int32} : ex 145 46 ls (.int z :: .int x :: st) h = if z < x then ex 145 49 ls st h else ex 145 56 ls st h := x_icmp_le hc_145 dX8_copy_46 rfl (by decide)
theorem x_145_49 {ls st : List Value} {h : Hp}  : ex 145 49 ls (st) h = gA (ldA ls 0) 145 50 ls st h := x_aload_n hc_145 dX8_copy_49 rfl rfl
theorem x_145_50 {ls st : List Value} {h : Hp}  : ex 145 50 ls (st) h = ex 145 52 ls (.int (-6) :: st) h := x_bipush hc_145 dX8_copy_50 rfl (by decide)
theorem x_145_52 {ls st : List Value} {h : Hp} {k : Nat} {a0 : Int32} : ex 145 52 ls (.int a0 :: .ref k :: st) h = if kd k = 8 ∧ st.length ≤ 4 then gC (ex 92 0 [.ref k, .int a0] [] h) 145 55 ls st else none := x_callV (as := [.int a0]) hc_145 dX8_copy_52 rfl mr_8_148 rfl rfl rfl (by decide) (by decide)
theorem x_145_55 {ls : List Value} {h : Hp} {v : Int32} : ex 145 55 ls [.int v] h = some (some (.int v), h) := x_iret hc_145 dX8_copy_55 rfl
theorem x_145_56 {ls st : List Value} {h : Hp}  : ex 145 56 ls (st) h = ex 145 57 ls (.int (0) :: st) h := x_iconst hc_145 dX8_copy_56 rfl (by decide)
theorem x_145_57 {ls st : List Value} {h : Hp} {x : Int32} : ex 145 57 ls (.int x :: st) h = ex 145 59 (ls.set 4 (.int x)) st h := x_istore hc_145 dX8_copy_57 rfl (by decide)
theorem x_145_59 {ls st : List Value} {h : Hp}  : ex 145 59 ls (st) h = gI (ldI ls 4) 145 61 ls st h := x_iload hc_145 dX8_copy_59 rfl
theorem x_145_61 {ls st : List Value} {h : Hp}  : ex 145 61 ls (st) h = gI (ldI ls 3) 145 62 ls st h := x_iload_n hc_145 dX8_copy_61 rfl rfl
theorem x_145_62 {ls st : List Value} {h : Hp} {x z : Int32} : ex 145 62 ls (.int z :: .int x :: st) h = if x < z then ex 145 65 ls st h else ex 145 87 ls st h := x_icmp_ge hc_145 dX8_copy_62 rfl (by decide)
theorem x_145_65 {ls st : List Value} {h : Hp}  : ex 145 65 ls (st) h = gA (ldA ls 0) 145 66 ls st h := x_aload_n hc_145 dX8_copy_65 rfl rfl
theorem x_145_66 {ls st : List Value} {h : Hp} {k : Nat} : ex 145 66 ls (.ref k :: st) h = if kd k = 8 then ex 145 69 ls (vl h k 49 :: st) h else none := x_getf hc_145 dX8_copy_66 rfl fr_8_132
theorem x_145_69 {ls st : List Value} {h : Hp}  : ex 145 69 ls (st) h = gI (ldI ls 4) 145 71 ls st h := x_iload hc_145 dX8_copy_69 rfl
theorem x_145_71 {ls st : List Value} {h : Hp}  : ex 145 71 ls (st) h = gA (ldA ls 0) 145 72 ls st h := x_aload_n hc_145 dX8_copy_71 rfl rfl
theorem x_145_72 {ls st : List Value} {h : Hp} {k : Nat} : ex 145 72 ls (.ref k :: st) h = if kd k = 8 then ex 145 75 ls (vl h k 48 :: st) h else none := x_getf hc_145 dX8_copy_72 rfl fr_8_129
theorem x_145_75 {ls st : List Value} {h : Hp}  : ex 145 75 ls (st) h = gI (ldI ls 1) 145 76 ls st h := x_iload_n hc_145 dX8_copy_75 rfl rfl
theorem x_145_76 {ls st : List Value} {h : Hp}  : ex 145 76 ls (st) h = gI (ldI ls 4) 145 78 ls st h := x_iload hc_145 dX8_copy_76 rfl
theorem x_145_78 {ls st : List Value} {h : Hp} {a b : Int32} : ex 145 78 ls (.int b :: .int a :: st) h = ex 145 79 ls (.int (a + b) :: st) h := x_iadd hc_145 dX8_copy_78 rfl
theorem x_145_79 {ls st : List Value} {h : Hp} {k : Nat} {x : Int32} : ex 145 79 ls (.int x :: .ref k :: st) h = if kd k = 9 ∧ x.toNatClampNeg < ln k ∧ 0 ≤ x then ex 145 80 ls (.int (h k x.toNatClampNeg) :: st) h else none := x_iald hc_145 dX8_copy_79 rfl
theorem x_145_80 {ls st : List Value} {h : Hp} {k : Nat} {x u : Int32} : ex 145 80 ls (.int u :: .int x :: .ref k :: st) h = if kd k = 9 ∧ x.toNatClampNeg < ln k ∧ 0 ≤ x then ex 145 81 ls st (hu h k x.toNatClampNeg u) else none := x_iast hc_145 dX8_copy_80 rfl
theorem x_145_81 {ls st : List Value} {h : Hp}  : ex 145 81 ls (st) h = gN (ldI ls 4) 145 84 ls 4 (1) st h := x_iinc hc_145 dX8_copy_81 rfl (by decide) (by decide)
theorem x_145_84 {ls st : List Value} {h : Hp}  : ex 145 84 ls (st) h = ex 145 59 ls st h := x_goto hc_145 dX8_copy_84 (by decide)
theorem x_145_87 {ls st : List Value} {h : Hp}  : ex 145 87 ls (st) h = ex 145 88 ls (.int (0) :: st) h := x_iconst hc_145 dX8_copy_87 rfl (by decide)
theorem x_145_88 {ls st : List Value} {h : Hp} {x : Int32} : ex 145 88 ls (.int x :: st) h = ex 145 90 (ls.set 4 (.int x)) st h := x_istore hc_145 dX8_copy_88 rfl (by decide)
theorem x_145_90 {ls st : List Value} {h : Hp}  : ex 145 90 ls (st) h = gI (ldI ls 4) 145 92 ls st h := x_iload hc_145 dX8_copy_90 rfl
theorem x_145_92 {ls st : List Value} {h : Hp}  : ex 145 92 ls (st) h = gI (ldI ls 3) 145 93 ls st h := x_iload_n hc_145 dX8_copy_92 rfl rfl
theorem x_145_93 {ls st : List Value} {h : Hp} {x z : Int32} : ex 145 93 ls (.int z :: .int x :: st) h = if x < z then ex 145 96 ls st h else ex 145 118 ls st h := x_icmp_ge hc_145 dX8_copy_93 rfl (by decide)
theorem x_145_96 {ls st : List Value} {h : Hp}  : ex 145 96 ls (st) h = gA (ldA ls 0) 145 97 ls st h := x_aload_n hc_145 dX8_copy_96 rfl rfl
theorem x_145_97 {ls st : List Value} {h : Hp} {k : Nat} : ex 145 97 ls (.ref k :: st) h = if kd k = 8 then ex 145 100 ls (vl h k 48 :: st) h else none := x_getf hc_145 dX8_copy_97 rfl fr_8_129
theorem x_145_100 {ls st : List Value} {h : Hp}  : ex 145 100 ls (st) h = gI (ldI ls 2) 145 101 ls st h := x_iload_n hc_145 dX8_copy_100 rfl rfl
theorem x_145_101 {ls st : List Value} {h : Hp}  : ex 145 101 ls (st) h = gI (ldI ls 4) 145 103 ls st h := x_iload hc_145 dX8_copy_101 rfl
theorem x_145_103 {ls st : List Value} {h : Hp} {a b : Int32} : ex 145 103 ls (.int b :: .int a :: st) h = ex 145 104 ls (.int (a + b) :: st) h := x_iadd hc_145 dX8_copy_103 rfl
theorem x_145_104 {ls st : List Value} {h : Hp}  : ex 145 104 ls (st) h = gA (ldA ls 0) 145 105 ls st h := x_aload_n hc_145 dX8_copy_104 rfl rfl
theorem x_145_105 {ls st : List Value} {h : Hp} {k : Nat} : ex 145 105 ls (.ref k :: st) h = if kd k = 8 then ex 145 108 ls (vl h k 49 :: st) h else none := x_getf hc_145 dX8_copy_105 rfl fr_8_132
theorem x_145_108 {ls st : List Value} {h : Hp}  : ex 145 108 ls (st) h = gI (ldI ls 4) 145 110 ls st h := x_iload hc_145 dX8_copy_108 rfl
theorem x_145_110 {ls st : List Value} {h : Hp} {k : Nat} {x : Int32} : ex 145 110 ls (.int x :: .ref k :: st) h = if kd k = 9 ∧ x.toNatClampNeg < ln k ∧ 0 ≤ x then ex 145 111 ls (.int (h k x.toNatClampNeg) :: st) h else none := x_iald hc_145 dX8_copy_110 rfl
theorem x_145_111 {ls st : List Value} {h : Hp} {k : Nat} {x u : Int32} : ex 145 111 ls (.int u :: .int x :: .ref k :: st) h = if kd k = 9 ∧ x.toNatClampNeg < ln k ∧ 0 ≤ x then ex 145 112 ls st (hu h k x.toNatClampNeg u) else none := x_iast hc_145 dX8_copy_111 rfl
theorem x_145_112 {ls st : List Value} {h : Hp}  : ex 145 112 ls (st) h = gN (ldI ls 4) 145 115 ls 4 (1) st h := x_iinc hc_145 dX8_copy_112 rfl (by decide) (by decide)
theorem x_145_115 {ls st : List Value} {h : Hp}  : ex 145 115 ls (st) h = ex 145 90 ls st h := x_goto hc_145 dX8_copy_115 (by decide)
theorem x_145_118 {ls st : List Value} {h : Hp}  : ex 145 118 ls (st) h = gI (ldI ls 3) 145 119 ls st h := x_iload_n hc_145 dX8_copy_118 rfl rfl
theorem x_145_119 {ls : List Value} {h : Hp} {v : Int32} : ex 145 119 ls [.int v] h = some (some (.int v), h) := x_iret hc_145 dX8_copy_119 rfl
theorem x_146_0 {ls st : List Value} {h : Hp}  : ex 146 0 ls (st) h = gI (ldI ls 1) 146 1 ls st h := x_iload_n hc_146 dX8_status_0 rfl rfl
theorem x_146_1 {ls st : List Value} {h : Hp}  : ex 146 1 ls (st) h = ex 146 3 ls (.int (-2) :: st) h := x_bipush hc_146 dX8_status_1 rfl (by decide)
theorem x_146_3 {ls st : List Value} {h : Hp} {x z : Int32} : ex 146 3 ls (.int z :: .int x :: st) h = if z < x then ex 146 22 ls st h else ex 146 6 ls st h := x_icmp_gt hc_146 dX8_status_3 rfl (by decide)
theorem x_146_6 {ls st : List Value} {h : Hp}  : ex 146 6 ls (st) h = gI (ldI ls 1) 146 7 ls st h := x_iload_n hc_146 dX8_status_6 rfl rfl
theorem x_146_7 {ls st : List Value} {h : Hp}  : ex 146 7 ls (st) h = ex 146 9 ls (.int (-8) :: st) h := x_bipush hc_146 dX8_status_7 rfl (by decide)
theorem x_146_9 {ls st : List Value} {h : Hp} {x z : Int32} : ex 146 9 ls (.int z :: .int x :: st) h = if x < z then ex 146 22 ls st h else ex 146 12 ls st h := x_icmp_lt hc_146 dX8_status_9 rfl (by decide)
theorem x_146_12 {ls st : List Value} {h : Hp}  : ex 146 12 ls (st) h = gA (ldA ls 0) 146 13 ls st h := x_aload_n hc_146 dX8_status_12 rfl rfl
theorem x_146_13 {ls st : List Value} {h : Hp} {k : Nat} : ex 146 13 ls (.ref k :: st) h = if kd k = 8 then ex 146 16 ls (vl h k 50 :: st) h else none := x_getf hc_146 dX8_status_13 rfl fr_8_135
theorem x_146_16 {ls st : List Value} {h : Hp}  : ex 146 16 ls (st) h = gI (ldI ls 1) 146 17 ls st h := x_iload_n hc_146 dX8_status_16 rfl rfl
theorem x_146_17 {ls st : List Value} {h : Hp} {a : Int32} : ex 146 17 ls (.int a :: st) h = ex 146 18 ls (.int (-a) :: st) h := x_ineg hc_146 dX8_status_17 rfl
theorem x_146_18 {ls st : List Value} {h : Hp} {k : Nat} {x : Int32} : ex 146 18 ls (.int x :: .ref k :: st) h = if kd k = 9 ∧ x.toNatClampNeg < ln k ∧ 0 ≤ x then ex 146 19 ls (.int (h k x.toNatClampNeg) :: st) h else none := x_iald hc_146 dX8_status_18 rfl
theorem x_146_19 {ls st : List Value} {h : Hp}  : ex 146 19 ls (st) h = ex 146 28 ls st h := x_goto hc_146 dX8_status_19 (by decide)
theorem x_146_22 {ls st : List Value} {h : Hp}  : ex 146 22 ls (st) h = gA (ldA ls 0) 146 23 ls st h := x_aload_n hc_146 dX8_status_22 rfl rfl
theorem x_146_23 {ls st : List Value} {h : Hp}  : ex 146 23 ls (st) h = ex 146 25 ls (.int (-7) :: st) h := x_bipush hc_146 dX8_status_23 rfl (by decide)
theorem x_146_25 {ls st : List Value} {h : Hp} {k : Nat} {a0 : Int32} : ex 146 25 ls (.int a0 :: .ref k :: st) h = if kd k = 8 ∧ st.length ≤ 4 then gC (ex 92 0 [.ref k, .int a0] [] h) 146 28 ls st else none := x_callV (as := [.int a0]) hc_146 dX8_status_25 rfl mr_8_148 rfl rfl rfl (by decide) (by decide)
theorem x_146_28 {ls : List Value} {h : Hp} {v : Int32} : ex 146 28 ls [.int v] h = some (some (.int v), h) := x_iret hc_146 dX8_status_28 rfl
theorem x_147_0 {ls st : List Value} {h : Hp}  : ex 147 0 ls (st) h = gI (ldI ls 0) 147 1 ls st h := x_iload_n hc_147 dJ9_floorMod_7cf53_0 rfl rfl
theorem x_147_1 {ls st : List Value} {h : Hp}  : ex 147 1 ls (st) h = gI (ldI ls 1) 147 2 ls st h := x_iload_n hc_147 dJ9_floorMod_7cf53_1 rfl rfl
theorem x_147_2 {ls st : List Value} {h : Hp} {a b : Int32} : ex 147 2 ls (.int b :: .int a :: st) h = if b = 0 then none else ex 147 3 ls (.int (a % b) :: st) h := x_irem hc_147 dJ9_floorMod_7cf53_2 rfl
theorem x_147_3 {ls st : List Value} {h : Hp} {x : Int32} : ex 147 3 ls (.int x :: st) h = ex 147 4 (ls.set 2 (.int x)) st h := x_istore_n hc_147 dJ9_floorMod_7cf53_3 rfl rfl (by decide)
theorem x_147_4 {ls st : List Value} {h : Hp}  : ex 147 4 ls (st) h = gI (ldI ls 0) 147 5 ls st h := x_iload_n hc_147 dJ9_floorMod_7cf53_4 rfl rfl
theorem x_147_5 {ls st : List Value} {h : Hp}  : ex 147 5 ls (st) h = gI (ldI ls 1) 147 6 ls st h := x_iload_n hc_147 dJ9_floorMod_7cf53_5 rfl rfl
theorem x_147_6 {ls st : List Value} {h : Hp} {a b : Int32} : ex 147 6 ls (.int b :: .int a :: st) h = ex 147 7 ls (.int (a ^^^ b) :: st) h := x_ixor hc_147 dJ9_floorMod_7cf53_6 rfl
theorem x_147_7 {ls st : List Value} {h : Hp} {x : Int32} : ex 147 7 ls (.int x :: st) h = if x < 0 then ex 147 10 ls st h else ex 147 18 ls st h := x_if_ge hc_147 dJ9_floorMod_7cf53_7 rfl (by decide)
theorem x_147_10 {ls st : List Value} {h : Hp}  : ex 147 10 ls (st) h = gI (ldI ls 2) 147 11 ls st h := x_iload_n hc_147 dJ9_floorMod_7cf53_10 rfl rfl
theorem x_147_11 {ls st : List Value} {h : Hp} {x : Int32} : ex 147 11 ls (.int x :: st) h = if x = 0 then ex 147 18 ls st h else ex 147 14 ls st h := x_if_eq hc_147 dJ9_floorMod_7cf53_11 rfl (by decide)
theorem x_147_14 {ls st : List Value} {h : Hp}  : ex 147 14 ls (st) h = gI (ldI ls 2) 147 15 ls st h := x_iload_n hc_147 dJ9_floorMod_7cf53_14 rfl rfl
theorem x_147_15 {ls st : List Value} {h : Hp}  : ex 147 15 ls (st) h = gI (ldI ls 1) 147 16 ls st h := x_iload_n hc_147 dJ9_floorMod_7cf53_15 rfl rfl
theorem x_147_16 {ls st : List Value} {h : Hp} {a b : Int32} : ex 147 16 ls (.int b :: .int a :: st) h = ex 147 17 ls (.int (a + b) :: st) h := x_iadd hc_147 dJ9_floorMod_7cf53_16 rfl
theorem x_147_17 {ls : List Value} {h : Hp} {v : Int32} : ex 147 17 ls [.int v] h = some (some (.int v), h) := x_iret hc_147 dJ9_floorMod_7cf53_17 rfl
theorem x_147_18 {ls st : List Value} {h : Hp}  : ex 147 18 ls (st) h = gI (ldI ls 2) 147 19 ls st h := x_iload_n hc_147 dJ9_floorMod_7cf53_18 rfl rfl
theorem x_147_19 {ls : List Value} {h : Hp} {v : Int32} : ex 147 19 ls [.int v] h = some (some (.int v), h) := x_iret hc_147 dJ9_floorMod_7cf53_19 rfl
theorem x_148_0 {ls st : List Value} {h : Hp}  : ex 148 0 ls (st) h = gI (ldI ls 0) 148 1 ls st h := x_iload_n hc_148 dJ9_min_7cf53_0 rfl rfl
theorem x_148_1 {ls st : List Value} {h : Hp}  : ex 148 1 ls (st) h = gI (ldI ls 1) 148 2 ls st h := x_iload_n hc_148 dJ9_min_7cf53_1 rfl rfl
theorem x_148_2 {ls st : List Value} {h : Hp} {x z : Int32} : ex 148 2 ls (.int z :: .int x :: st) h = if z < x then ex 148 9 ls st h else ex 148 5 ls st h := x_icmp_gt hc_148 dJ9_min_7cf53_2 rfl (by decide)
theorem x_148_5 {ls st : List Value} {h : Hp}  : ex 148 5 ls (st) h = gI (ldI ls 0) 148 6 ls st h := x_iload_n hc_148 dJ9_min_7cf53_5 rfl rfl
theorem x_148_6 {ls st : List Value} {h : Hp}  : ex 148 6 ls (st) h = ex 148 10 ls st h := x_goto hc_148 dJ9_min_7cf53_6 (by decide)
theorem x_148_9 {ls st : List Value} {h : Hp}  : ex 148 9 ls (st) h = gI (ldI ls 1) 148 10 ls st h := x_iload_n hc_148 dJ9_min_7cf53_9 rfl rfl
theorem x_148_10 {ls : List Value} {h : Hp} {v : Int32} : ex 148 10 ls [.int v] h = some (some (.int v), h) := x_iret hc_148 dJ9_min_7cf53_10 rfl
theorem x_149_0 {ls st : List Value} {h : Hp}  : ex 149 0 ls (st) h = gI (ldI ls 0) 149 1 ls st h := x_iload_n hc_149 dJ9_max_7cf53_0 rfl rfl
theorem x_149_1 {ls st : List Value} {h : Hp}  : ex 149 1 ls (st) h = gI (ldI ls 1) 149 2 ls st h := x_iload_n hc_149 dJ9_max_7cf53_1 rfl rfl
theorem x_149_2 {ls st : List Value} {h : Hp} {x z : Int32} : ex 149 2 ls (.int z :: .int x :: st) h = if x < z then ex 149 9 ls st h else ex 149 5 ls st h := x_icmp_lt hc_149 dJ9_max_7cf53_2 rfl (by decide)
theorem x_149_5 {ls st : List Value} {h : Hp}  : ex 149 5 ls (st) h = gI (ldI ls 0) 149 6 ls st h := x_iload_n hc_149 dJ9_max_7cf53_5 rfl rfl
theorem x_149_6 {ls st : List Value} {h : Hp}  : ex 149 6 ls (st) h = ex 149 10 ls st h := x_goto hc_149 dJ9_max_7cf53_6 (by decide)
theorem x_149_9 {ls st : List Value} {h : Hp}  : ex 149 9 ls (st) h = gI (ldI ls 1) 149 10 ls st h := x_iload_n hc_149 dJ9_max_7cf53_9 rfl rfl
theorem x_149_10 {ls : List Value} {h : Hp} {v : Int32} : ex 149 10 ls [.int v] h = some (some (.int v), h) := x_iret hc_149 dJ9_max_7cf53_10 rfl
theorem x_150_0 {ls st : List Value} {h : Hp}  : ex 150 0 ls (st) h = ex 150 1 ls (.int (0) :: st) h := x_iconst hc_150 dJ7_fill_53178_0 rfl (by decide)
theorem x_150_1 {ls st : List Value} {h : Hp} {x : Int32} : ex 150 1 ls (.int x :: st) h = ex 150 2 (ls.set 2 (.int x)) st h := x_istore_n hc_150 dJ7_fill_53178_1 rfl rfl (by decide)
theorem x_150_2 {ls st : List Value} {h : Hp}  : ex 150 2 ls (st) h = gA (ldA ls 0) 150 3 ls st h := x_aload_n hc_150 dJ7_fill_53178_2 rfl rfl
theorem x_150_3 {ls st : List Value} {h : Hp} {k : Nat} : ex 150 3 ls (.ref k :: st) h = if 9 ≤ kd k ∧ kd k ≤ 10 then ex 150 4 ls (.int (Int32.ofNat (ln k)) :: st) h else none := x_alen hc_150 dJ7_fill_53178_3 rfl
theorem x_150_4 {ls st : List Value} {h : Hp} {x : Int32} : ex 150 4 ls (.int x :: st) h = ex 150 5 (ls.set 3 (.int x)) st h := x_istore_n hc_150 dJ7_fill_53178_4 rfl rfl (by decide)
theorem x_150_5 {ls st : List Value} {h : Hp}  : ex 150 5 ls (st) h = gI (ldI ls 2) 150 6 ls st h := x_iload_n hc_150 dJ7_fill_53178_5 rfl rfl
theorem x_150_6 {ls st : List Value} {h : Hp}  : ex 150 6 ls (st) h = gI (ldI ls 3) 150 7 ls st h := x_iload_n hc_150 dJ7_fill_53178_6 rfl rfl
theorem x_150_7 {ls st : List Value} {h : Hp} {x z : Int32} : ex 150 7 ls (.int z :: .int x :: st) h = if x < z then ex 150 10 ls st h else ex 150 20 ls st h := x_icmp_ge hc_150 dJ7_fill_53178_7 rfl (by decide)
theorem x_150_10 {ls st : List Value} {h : Hp}  : ex 150 10 ls (st) h = gA (ldA ls 0) 150 11 ls st h := x_aload_n hc_150 dJ7_fill_53178_10 rfl rfl
theorem x_150_11 {ls st : List Value} {h : Hp}  : ex 150 11 ls (st) h = gI (ldI ls 2) 150 12 ls st h := x_iload_n hc_150 dJ7_fill_53178_11 rfl rfl
theorem x_150_12 {ls st : List Value} {h : Hp}  : ex 150 12 ls (st) h = gI (ldI ls 1) 150 13 ls st h := x_iload_n hc_150 dJ7_fill_53178_12 rfl rfl
theorem x_150_13 {ls st : List Value} {h : Hp} {k : Nat} {x u : Int32} : ex 150 13 ls (.int u :: .int x :: .ref k :: st) h = if kd k = 9 ∧ x.toNatClampNeg < ln k ∧ 0 ≤ x then ex 150 14 ls st (hu h k x.toNatClampNeg u) else none := x_iast hc_150 dJ7_fill_53178_13 rfl
theorem x_150_14 {ls st : List Value} {h : Hp}  : ex 150 14 ls (st) h = gN (ldI ls 2) 150 17 ls 2 (1) st h := x_iinc hc_150 dJ7_fill_53178_14 rfl (by decide) (by decide)
theorem x_150_17 {ls st : List Value} {h : Hp}  : ex 150 17 ls (st) h = ex 150 5 ls st h := x_goto hc_150 dJ7_fill_53178_17 (by decide)
theorem x_150_20 {ls : List Value} {h : Hp} : ex 150 20 ls [] h = some (none, h) := x_vret hc_150 dJ7_fill_53178_20 rfl
