/-! ===== places of the layout, and reading through writes ===== -/
def sI (s j : Nat) : Nat := 1000 + 3 * (10 * s + j)
def cI (c j : Nat) : Nat := 1001 + 3 * (10 * c + j)
def rI (r j : Nat) : Nat := 1002 + 3 * (10 * r + j)
theorem hu_at {h : Hp} {k j : Nat} {v : Int32} : hu h k j v k j = v := by simp [hu, hw, upd]
theorem hu_k {h : Hp} {k j a b : Nat} {v : Int32} (hne : a ≠ k) : hu h k j v a b = h a b := by simp [hu, hw, hne]
theorem hu_j {h : Hp} {k j a b : Nat} {v : Int32} (hne : b ≠ j) : hu h k j v a b = h a b := by
  by_cases ha : a = k
  · subst ha; simp [hu, hw, upd, hne]
  · exact hu_k ha
theorem hu_if {h : Hp} {k j a b : Nat} {v : Int32} : hu h k j v a b = if a = k ∧ b = j then v else h a b := by
  by_cases ha : a = k
  · subst ha
    by_cases hb : b = j
    · subst hb; simp [hu_at]
    · simp [hu_j hb, hb]
  · simp [hu_k ha, ha]
theorem l_10 : ((1 : Int32) = 0) = False := by decide
theorem l_01 : ((0 : Int32) = 1) = False := by decide
theorem l_00 : ((0 : Int32) = 0) = True := by decide
theorem l_m10 : ((-1 : Int32) = 0) = False := by decide
theorem l_e0_1 : ((0 : Int32) = 1) = False := by decide
theorem l_e0_2 : ((0 : Int32) = 2) = False := by decide
theorem l_e0_3 : ((0 : Int32) = 3) = False := by decide
theorem l_e0_4 : ((0 : Int32) = 4) = False := by decide
theorem l_e0_5 : ((0 : Int32) = 5) = False := by decide
theorem l_e0_6 : ((0 : Int32) = 6) = False := by decide
theorem l_e0_7 : ((0 : Int32) = 7) = False := by decide
theorem l_e0_8 : ((0 : Int32) = 8) = False := by decide
theorem l_e1_0 : ((1 : Int32) = 0) = False := by decide
theorem l_e1_2 : ((1 : Int32) = 2) = False := by decide
theorem l_e1_3 : ((1 : Int32) = 3) = False := by decide
theorem l_e1_4 : ((1 : Int32) = 4) = False := by decide
theorem l_e1_5 : ((1 : Int32) = 5) = False := by decide
theorem l_e1_6 : ((1 : Int32) = 6) = False := by decide
theorem l_e1_7 : ((1 : Int32) = 7) = False := by decide
theorem l_e1_8 : ((1 : Int32) = 8) = False := by decide
theorem l_e2_0 : ((2 : Int32) = 0) = False := by decide
theorem l_e2_1 : ((2 : Int32) = 1) = False := by decide
theorem l_e2_3 : ((2 : Int32) = 3) = False := by decide
theorem l_e2_4 : ((2 : Int32) = 4) = False := by decide
theorem l_e2_5 : ((2 : Int32) = 5) = False := by decide
theorem l_e2_6 : ((2 : Int32) = 6) = False := by decide
theorem l_e2_7 : ((2 : Int32) = 7) = False := by decide
theorem l_e2_8 : ((2 : Int32) = 8) = False := by decide
theorem l_e3_0 : ((3 : Int32) = 0) = False := by decide
theorem l_e3_1 : ((3 : Int32) = 1) = False := by decide
theorem l_e3_2 : ((3 : Int32) = 2) = False := by decide
theorem l_e3_4 : ((3 : Int32) = 4) = False := by decide
theorem l_e3_5 : ((3 : Int32) = 5) = False := by decide
theorem l_e3_6 : ((3 : Int32) = 6) = False := by decide
theorem l_e3_7 : ((3 : Int32) = 7) = False := by decide
theorem l_e3_8 : ((3 : Int32) = 8) = False := by decide
theorem l_e4_0 : ((4 : Int32) = 0) = False := by decide
theorem l_e4_1 : ((4 : Int32) = 1) = False := by decide
theorem l_e4_2 : ((4 : Int32) = 2) = False := by decide
theorem l_e4_3 : ((4 : Int32) = 3) = False := by decide
theorem l_e4_5 : ((4 : Int32) = 5) = False := by decide
theorem l_e4_6 : ((4 : Int32) = 6) = False := by decide
theorem l_e4_7 : ((4 : Int32) = 7) = False := by decide
theorem l_e4_8 : ((4 : Int32) = 8) = False := by decide
theorem l_e5_0 : ((5 : Int32) = 0) = False := by decide
theorem l_e5_1 : ((5 : Int32) = 1) = False := by decide
theorem l_e5_2 : ((5 : Int32) = 2) = False := by decide
theorem l_e5_3 : ((5 : Int32) = 3) = False := by decide
theorem l_e5_4 : ((5 : Int32) = 4) = False := by decide
theorem l_e5_6 : ((5 : Int32) = 6) = False := by decide
theorem l_e5_7 : ((5 : Int32) = 7) = False := by decide
theorem l_e5_8 : ((5 : Int32) = 8) = False := by decide
theorem l_e6_0 : ((6 : Int32) = 0) = False := by decide
theorem l_e6_1 : ((6 : Int32) = 1) = False := by decide
theorem l_e6_2 : ((6 : Int32) = 2) = False := by decide
theorem l_e6_3 : ((6 : Int32) = 3) = False := by decide
theorem l_e6_4 : ((6 : Int32) = 4) = False := by decide
theorem l_e6_5 : ((6 : Int32) = 5) = False := by decide
theorem l_e6_7 : ((6 : Int32) = 7) = False := by decide
theorem l_e6_8 : ((6 : Int32) = 8) = False := by decide
theorem l_e7_0 : ((7 : Int32) = 0) = False := by decide
theorem l_e7_1 : ((7 : Int32) = 1) = False := by decide
theorem l_e7_2 : ((7 : Int32) = 2) = False := by decide
theorem l_e7_3 : ((7 : Int32) = 3) = False := by decide
theorem l_e7_4 : ((7 : Int32) = 4) = False := by decide
theorem l_e7_5 : ((7 : Int32) = 5) = False := by decide
theorem l_e7_6 : ((7 : Int32) = 6) = False := by decide
theorem l_e7_8 : ((7 : Int32) = 8) = False := by decide
theorem l_e8_0 : ((8 : Int32) = 0) = False := by decide
theorem l_e8_1 : ((8 : Int32) = 1) = False := by decide
theorem l_e8_2 : ((8 : Int32) = 2) = False := by decide
theorem l_e8_3 : ((8 : Int32) = 3) = False := by decide
theorem l_e8_4 : ((8 : Int32) = 4) = False := by decide
theorem l_e8_5 : ((8 : Int32) = 5) = False := by decide
theorem l_e8_6 : ((8 : Int32) = 6) = False := by decide
theorem l_e8_7 : ((8 : Int32) = 7) = False := by decide
/-- a truth value -/
def bi (p : Prop) [Decidable p] : Int32 := if p then 1 else 0
theorem bi_0 {p : Prop} [Decidable p] : (bi p = 0) ↔ ¬ p := by unfold bi; by_cases h : p <;> simp [h]
theorem bi_01 {p : Prop} [Decidable p] : bi p = 0 ∨ bi p = 1 := by unfold bi; by_cases h : p <;> simp [h]
theorem m_min {a b : Int32} {h : Hp} : ex 148 0 [.int a, .int b] [] h = some (some (.int (if b < a then b else a)), h) := by
  simp only [x_148_0, x_148_1, x_148_2, x_148_5, x_148_6, x_148_9, x_148_10, gI_s, gA_s, gN_s, gC_s, gC_n, or_true, true_or, or_false, false_or, or_self, ldI_z, ldI_s, ldA_z, ldA_s, Option.bind_some, Option.bind_none, List.set_cons_zero, List.set_cons_succ, List.length_nil, List.length_cons, Option.toList_some, Option.toList_none, List.cons_append, List.nil_append, Nat.reduceAdd, Nat.reduceSub, Nat.reduceMul, Nat.reduceLeDiff, Nat.reduceLT, Nat.reduceEqDiff, and_self, true_and, and_true, false_and, and_false, if_true, if_false, ↓reduceIte, ite_true, ite_false, Nat.zero_add, Nat.add_zero]
  by_cases hc : b < a <;> simp only [hc, gI_s, gA_s, gN_s, gC_s, gC_n, or_true, true_or, or_false, false_or, or_self, ldI_z, ldI_s, ldA_z, ldA_s, Option.bind_some, Option.bind_none, List.set_cons_zero, List.set_cons_succ, List.length_nil, List.length_cons, Option.toList_some, Option.toList_none, List.cons_append, List.nil_append, Nat.reduceAdd, Nat.reduceSub, Nat.reduceMul, Nat.reduceLeDiff, Nat.reduceLT, Nat.reduceEqDiff, and_self, true_and, and_true, false_and, and_false, if_true, if_false, ↓reduceIte, ite_true, ite_false, Nat.zero_add, Nat.add_zero, x_148_0, x_148_1, x_148_2, x_148_5, x_148_6, x_148_9, x_148_10]
theorem m_max {a b : Int32} {h : Hp} : ex 149 0 [.int a, .int b] [] h = some (some (.int (if a < b then b else a)), h) := by
  simp only [x_149_0, x_149_1, x_149_2, x_149_5, x_149_6, x_149_9, x_149_10, gI_s, gA_s, gN_s, gC_s, gC_n, or_true, true_or, or_false, false_or, or_self, ldI_z, ldI_s, ldA_z, ldA_s, Option.bind_some, Option.bind_none, List.set_cons_zero, List.set_cons_succ, List.length_nil, List.length_cons, Option.toList_some, Option.toList_none, List.cons_append, List.nil_append, Nat.reduceAdd, Nat.reduceSub, Nat.reduceMul, Nat.reduceLeDiff, Nat.reduceLT, Nat.reduceEqDiff, and_self, true_and, and_true, false_and, and_false, if_true, if_false, ↓reduceIte, ite_true, ite_false, Nat.zero_add, Nat.add_zero]
  by_cases hc : a < b <;> simp only [hc, gI_s, gA_s, gN_s, gC_s, gC_n, or_true, true_or, or_false, false_or, or_self, ldI_z, ldI_s, ldA_z, ldA_s, Option.bind_some, Option.bind_none, List.set_cons_zero, List.set_cons_succ, List.length_nil, List.length_cons, Option.toList_some, Option.toList_none, List.cons_append, List.nil_append, Nat.reduceAdd, Nat.reduceSub, Nat.reduceMul, Nat.reduceLeDiff, Nat.reduceLT, Nat.reduceEqDiff, and_self, true_and, and_true, false_and, and_false, if_true, if_false, ↓reduceIte, ite_true, ite_false, Nat.zero_add, Nat.add_zero, x_149_0, x_149_1, x_149_2, x_149_5, x_149_6, x_149_9, x_149_10]
theorem X_within {v a b : Int32} {h : Hp} : ex 44 0 [.int v, .int a, .int b] [] h = some (some (.int (bi (a ≤ v ∧ v ≤ b))), h) := by
  simp only [x_44_0, x_44_1, x_44_2, x_44_5, x_44_6, x_44_7, x_44_10, x_44_11, x_44_14, x_44_15, gI_s, gA_s, gN_s, gC_s, gC_n, or_true, true_or, or_false, false_or, or_self, ldI_z, ldI_s, ldA_z, ldA_s, Option.bind_some, Option.bind_none, List.set_cons_zero, List.set_cons_succ, List.length_nil, List.length_cons, Option.toList_some, Option.toList_none, List.cons_append, List.nil_append, Nat.reduceAdd, Nat.reduceSub, Nat.reduceMul, Nat.reduceLeDiff, Nat.reduceLT, Nat.reduceEqDiff, and_self, true_and, and_true, false_and, and_false, if_true, if_false, ↓reduceIte, ite_true, ite_false, Nat.zero_add, Nat.add_zero]
  by_cases h1 : v < a
  · have : ¬ (a ≤ v ∧ v ≤ b) := fun q => absurd h1 (Int32.not_lt.mpr q.1)
    simp only [h1, bi, this, gI_s, gA_s, gN_s, gC_s, gC_n, or_true, true_or, or_false, false_or, or_self, ldI_z, ldI_s, ldA_z, ldA_s, Option.bind_some, Option.bind_none, List.set_cons_zero, List.set_cons_succ, List.length_nil, List.length_cons, Option.toList_some, Option.toList_none, List.cons_append, List.nil_append, Nat.reduceAdd, Nat.reduceSub, Nat.reduceMul, Nat.reduceLeDiff, Nat.reduceLT, Nat.reduceEqDiff, and_self, true_and, and_true, false_and, and_false, if_true, if_false, ↓reduceIte, ite_true, ite_false, Nat.zero_add, Nat.add_zero, x_44_0, x_44_1, x_44_2, x_44_5, x_44_6, x_44_7, x_44_10, x_44_11, x_44_14, x_44_15]
    all_goals simp
  · by_cases h2 : b < v
    · have : ¬ (a ≤ v ∧ v ≤ b) := fun q => absurd h2 (Int32.not_lt.mpr q.2)
      simp only [h1, h2, bi, this, gI_s, gA_s, gN_s, gC_s, gC_n, or_true, true_or, or_false, false_or, or_self, ldI_z, ldI_s, ldA_z, ldA_s, Option.bind_some, Option.bind_none, List.set_cons_zero, List.set_cons_succ, List.length_nil, List.length_cons, Option.toList_some, Option.toList_none, List.cons_append, List.nil_append, Nat.reduceAdd, Nat.reduceSub, Nat.reduceMul, Nat.reduceLeDiff, Nat.reduceLT, Nat.reduceEqDiff, and_self, true_and, and_true, false_and, and_false, if_true, if_false, ↓reduceIte, ite_true, ite_false, Nat.zero_add, Nat.add_zero, x_44_0, x_44_1, x_44_2, x_44_5, x_44_6, x_44_7, x_44_10, x_44_11, x_44_14, x_44_15]
      all_goals simp
    · have : (a ≤ v ∧ v ≤ b) := ⟨Int32.not_lt.mp h1, Int32.not_lt.mp h2⟩
      simp only [h1, h2, bi, this, gI_s, gA_s, gN_s, gC_s, gC_n, or_true, true_or, or_false, false_or, or_self, ldI_z, ldI_s, ldA_z, ldA_s, Option.bind_some, Option.bind_none, List.set_cons_zero, List.set_cons_succ, List.length_nil, List.length_cons, Option.toList_some, Option.toList_none, List.cons_append, List.nil_append, Nat.reduceAdd, Nat.reduceSub, Nat.reduceMul, Nat.reduceLeDiff, Nat.reduceLT, Nat.reduceEqDiff, and_self, true_and, and_true, false_and, and_false, if_true, if_false, ↓reduceIte, ite_true, ite_false, Nat.zero_add, Nat.add_zero, x_44_0, x_44_1, x_44_2, x_44_5, x_44_6, x_44_7, x_44_10, x_44_11, x_44_14, x_44_15]
      all_goals simp
