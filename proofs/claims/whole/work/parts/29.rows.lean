/-! ===== rows: loops that fill ===== -/
theorem two_ns {i : Nat} {x m : Hp} (I : Inv i (mix x m)) : ∃ ns, 2 ≤ ns ∧ ns ≤ 8 ∧ x 0 11 = nI ns ∧ m 600 1 = nI ns := by
  obtain ⟨ns, a, b, c, d⟩ := Inv_ns I
  rw [mix_0] at c; rw [mix_600] at d
  exact ⟨ns, a, b, c, d⟩
theorem two_nc {i : Nat} {x m : Hp} (I : Inv i (mix x m)) : ∃ nc, nc ≤ 10 ∧ x 0 12 = nI nc ∧ m 600 2 = nI nc := by
  obtain ⟨nc, b, c, d⟩ := Inv_nc I
  rw [mix_0] at c; rw [mix_600] at d
  exact ⟨nc, b, c, d⟩
theorem two_tr {i : Nat} {x m : Hp} (I : Inv i (mix x m)) {k j : Nat} {q : Nat × Nat × Int × Int} (hq : tr k j = some q) : x k j = m q.1 q.2.1 ∧ q.2.2.1 ≤ (m q.1 q.2.1).toInt ∧ (m q.1 q.2.1).toInt ≤ q.2.2.2 := by
  obtain ⟨e1, e2, e3⟩ := tr_ok hq
  obtain ⟨a, b, c⟩ := I.1 k j q hq
  rw [mix_X e3] at a b c
  rw [mix_M e2] at a
  rw [a] at b c
  exact ⟨a, b, c⟩
theorem hw_same {h : Hp} {k : Nat} {f : Nat → Int32} (hf : ∀ b, f b = h k b) : hw h k f = h := by
  funext a b
  by_cases ha : a = k
  · subst ha; simp [hw, hf]
  · simp [hw, ha]
theorem hw_hu {h : Hp} {k j : Nat} {v : Int32} {f g : Nat → Int32} (hf : ∀ b, f b = g b) : hw (hu h k j v) k f = hw h k g := by
  funext a b
  by_cases ha : a = k
  · subst ha; simp [hw, hf]
  · simp [hw, hu, ha]
theorem nI_nl {k n : Nat} (h : n ≤ k) (hn : k < 100000) : (nI k < nI n) = False := eq_false (nI_nlt h (by omega))
set_option maxHeartbeats 1000000 in
theorem fill_loop {k : Nat} (hk : kd k = 9) (hl : ln k < 100000) (v : Int32) : ∀ (n j : Nat) (h : Hp), j + n = ln k → ex 150 5 [.ref k, .int v, .int (nI j), .int (nI (ln k))] [] h = some (none, hw h k (fun b => if j ≤ b ∧ b < ln k then v else h k b)) := by
  intro n
  induction n with
  | zero =>
    intro j h hj
    have e : j = ln k := by omega
    subst e
    rw [x_150_5]
    simp only [x_150_6, x_150_7, x_150_10, x_150_11, x_150_12, x_150_13, x_150_14, x_150_17, x_150_20, ldI_z, ldI_s, ldA_z, ldA_s, Option.bind_some, Option.bind_none, List.set_cons_zero, List.set_cons_succ, List.length_nil, List.length_cons, Option.toList_some, Option.toList_none, List.cons_append, List.nil_append, Nat.reduceAdd, Nat.reduceSub, Nat.reduceMul, Nat.reduceLeDiff, Nat.reduceLT, Nat.reduceEqDiff, and_self, true_and, and_true, false_and, and_false, if_true, if_false, reduceIte, ite_true, ite_false, Nat.zero_add, Nat.add_zero, nI_nl (Nat.le_refl (ln k)) hl]
    rw [hw_same (fun b => if_neg (by omega))]
  | succ n ih =>
    intro j h hj
    have h1 : j < 100000 := by omega
    have h2 : j < ln k := by omega
    rw [x_150_5]
    simp only [x_150_6, x_150_7, x_150_10, x_150_11, x_150_12, x_150_13, x_150_14, x_150_17, x_150_20, ldI_z, ldI_s, ldA_z, ldA_s, Option.bind_some, Option.bind_none, List.set_cons_zero, List.set_cons_succ, List.length_nil, List.length_cons, Option.toList_some, Option.toList_none, List.cons_append, List.nil_append, Nat.reduceAdd, Nat.reduceSub, Nat.reduceMul, Nat.reduceLeDiff, Nat.reduceLT, Nat.reduceEqDiff, and_self, true_and, and_true, false_and, and_false, if_true, if_false, reduceIte, ite_true, ite_false, Nat.zero_add, Nat.add_zero, nIl h2 hl, hk, nIc h1, nIg h1, h2, nI_1]
    rw [ih (j + 1) _ (by omega), hw_hu]
    intro b
    by_cases hb : b = j
    · subst hb
      rw [if_neg (by omega), if_pos (by omega), hu_at]
    · rw [hu_j hb]
      by_cases hb2 : j ≤ b ∧ b < ln k
      · rw [if_pos hb2, if_pos (by omega)]
      · rw [if_neg hb2, if_neg (by omega)]
theorem A_fill {k : Nat} (hk : kd k = 9) (hl : ln k < 100000) {v : Int32} {h : Hp} : ex 150 0 [.ref k, .int v, .null, .null] [] h = some (none, hw h k (fun b => if b < ln k then v else h k b)) := by
  simp only [x_150_0, x_150_1, x_150_2, x_150_3, x_150_4, ldI_z, ldI_s, ldA_z, ldA_s, Option.bind_some, Option.bind_none, List.set_cons_zero, List.set_cons_succ, List.length_nil, List.length_cons, Option.toList_some, Option.toList_none, List.cons_append, List.nil_append, Nat.reduceAdd, Nat.reduceSub, Nat.reduceMul, Nat.reduceLeDiff, Nat.reduceLT, Nat.reduceEqDiff, and_self, true_and, and_true, false_and, and_false, if_true, if_false, reduceIte, ite_true, ite_false, Nat.zero_add, Nat.add_zero, hk, show Int32.ofNat (ln k) = nI (ln k) from rfl]
  rw [show (0 : Int32) = nI 0 from rfl, fill_loop hk hl v (ln k) 0 h (by omega)]
  simp only [Nat.zero_le, true_and]
set_option maxHeartbeats 1000000 in
theorem tear_loop (w : Int32) : ∀ (n j : Nat) (h : Hp), j + n = 48 → ex 143 12 [.ref 600, .int w, .int (nI j)] [] h = some (some (.int (if w = 0 then 0 else 1)), hw h 648 (fun b => if j ≤ b ∧ b < 48 then 0 else h 648 b)) := by
  intro n
  induction n with
  | zero =>
    intro j h hj
    have e : j = 48 := by omega
    subst e
    by_cases hw0 : w = 0
    · rw [x_143_12]
      simp only [x_143_13, x_143_15, x_143_18, x_143_19, x_143_22, x_143_23, x_143_24, x_143_25, x_143_28, x_143_31, x_143_32, x_143_35, x_143_36, x_143_39, x_143_40, ldI_z, ldI_s, ldA_z, ldA_s, Option.bind_some, Option.bind_none, List.set_cons_zero, List.set_cons_succ, List.length_nil, List.length_cons, Option.toList_some, Option.toList_none, List.cons_append, List.nil_append, Nat.reduceAdd, Nat.reduceSub, Nat.reduceMul, Nat.reduceLeDiff, Nat.reduceLT, Nat.reduceEqDiff, and_self, true_and, and_true, false_and, and_false, if_true, if_false, reduceIte, ite_true, ite_false, Nat.zero_add, Nat.add_zero, Int32.reduceToNatClampNeg, Int32.reduceLE, Int32.reduceLT, Int32.reduceAdd, Int32.neg_neg, l_00, l_m10, l_e0_1, l_e0_2, l_e0_3, l_e0_4, l_e0_5, l_e0_6, l_e0_7, l_e0_8, l_e1_0, l_e1_2, l_e1_3, l_e1_4, l_e1_5, l_e1_6, l_e1_7, l_e1_8, l_e2_0, l_e2_1, l_e2_3, l_e2_4, l_e2_5, l_e2_6, l_e2_7, l_e2_8, l_e3_0, l_e3_1, l_e3_2, l_e3_4, l_e3_5, l_e3_6, l_e3_7, l_e3_8, l_e4_0, l_e4_1, l_e4_2, l_e4_3, l_e4_5, l_e4_6, l_e4_7, l_e4_8, l_e5_0, l_e5_1, l_e5_2, l_e5_3, l_e5_4, l_e5_6, l_e5_7, l_e5_8, l_e6_0, l_e6_1, l_e6_2, l_e6_3, l_e6_4, l_e6_5, l_e6_7, l_e6_8, l_e7_0, l_e7_1, l_e7_2, l_e7_3, l_e7_4, l_e7_5, l_e7_6, l_e7_8, l_e8_0, l_e8_1, l_e8_2, l_e8_3, l_e8_4, l_e8_5, l_e8_6, l_e8_7, eq_self, Int32.reduceSub, kd_600, kd_609, kd_610, kd_611, kd_612, kd_613, kd_614, kd_615, kd_616, kd_617, kd_618, kd_619, kd_620, kd_621, kd_622, kd_623, kd_624, kd_625, kd_626, kd_627, kd_628, kd_629, kd_630, kd_631, kd_632, kd_633, kd_634, kd_635, kd_636, kd_637, kd_639, kd_640, kd_641, kd_642, kd_643, kd_644, kd_645, kd_646, kd_647, kd_648, kd_649, kd_650, kd_654, ln_609, ln_610, ln_611, ln_612, ln_613, ln_614, ln_615, ln_616, ln_617, ln_618, ln_619, ln_620, ln_621, ln_622, ln_623, ln_624, ln_625, ln_626, ln_627, ln_628, ln_629, ln_630, ln_631, ln_632, ln_633, ln_634, ln_635, ln_636, ln_637, ln_639, ln_640, ln_641, ln_642, ln_643, ln_644, ln_645, ln_646, ln_647, ln_648, ln_649, ln_650, ln_654, vl_600_0, vl_600_1, vl_600_2, vl_600_3, vl_600_4, vl_600_5, vl_600_6, vl_600_7, vl_600_8, vl_600_9, vl_600_10, vl_600_11, vl_600_12, vl_600_13, vl_600_14, vl_600_15, vl_600_16, vl_600_17, vl_600_18, vl_600_19, vl_600_20, vl_600_21, vl_600_22, vl_600_23, vl_600_24, vl_600_25, vl_600_26, vl_600_27, vl_600_28, vl_600_29, vl_600_30, vl_600_31, vl_600_32, vl_600_33, vl_600_34, vl_600_35, vl_600_36, vl_600_37, vl_600_38, vl_600_39, vl_600_40, vl_600_41, vl_600_42, vl_600_43, vl_600_44, vl_600_45, vl_600_46, vl_600_47, vl_600_48, vl_600_49, vl_600_50, vl_600_51, vl_600_52, vl_600_53, vl_600_54, show (nI 48 < 48) = False from by decide, hw0]
      rw [hw_same (fun b => if_neg (by omega))]
    · rw [x_143_12]
      simp only [x_143_13, x_143_15, x_143_18, x_143_19, x_143_22, x_143_23, x_143_24, x_143_25, x_143_28, x_143_31, x_143_32, x_143_35, x_143_36, x_143_39, x_143_40, ldI_z, ldI_s, ldA_z, ldA_s, Option.bind_some, Option.bind_none, List.set_cons_zero, List.set_cons_succ, List.length_nil, List.length_cons, Option.toList_some, Option.toList_none, List.cons_append, List.nil_append, Nat.reduceAdd, Nat.reduceSub, Nat.reduceMul, Nat.reduceLeDiff, Nat.reduceLT, Nat.reduceEqDiff, and_self, true_and, and_true, false_and, and_false, if_true, if_false, reduceIte, ite_true, ite_false, Nat.zero_add, Nat.add_zero, Int32.reduceToNatClampNeg, Int32.reduceLE, Int32.reduceLT, Int32.reduceAdd, Int32.neg_neg, l_00, l_m10, l_e0_1, l_e0_2, l_e0_3, l_e0_4, l_e0_5, l_e0_6, l_e0_7, l_e0_8, l_e1_0, l_e1_2, l_e1_3, l_e1_4, l_e1_5, l_e1_6, l_e1_7, l_e1_8, l_e2_0, l_e2_1, l_e2_3, l_e2_4, l_e2_5, l_e2_6, l_e2_7, l_e2_8, l_e3_0, l_e3_1, l_e3_2, l_e3_4, l_e3_5, l_e3_6, l_e3_7, l_e3_8, l_e4_0, l_e4_1, l_e4_2, l_e4_3, l_e4_5, l_e4_6, l_e4_7, l_e4_8, l_e5_0, l_e5_1, l_e5_2, l_e5_3, l_e5_4, l_e5_6, l_e5_7, l_e5_8, l_e6_0, l_e6_1, l_e6_2, l_e6_3, l_e6_4, l_e6_5, l_e6_7, l_e6_8, l_e7_0, l_e7_1, l_e7_2, l_e7_3, l_e7_4, l_e7_5, l_e7_6, l_e7_8, l_e8_0, l_e8_1, l_e8_2, l_e8_3, l_e8_4, l_e8_5, l_e8_6, l_e8_7, eq_self, Int32.reduceSub, kd_600, kd_609, kd_610, kd_611, kd_612, kd_613, kd_614, kd_615, kd_616, kd_617, kd_618, kd_619, kd_620, kd_621, kd_622, kd_623, kd_624, kd_625, kd_626, kd_627, kd_628, kd_629, kd_630, kd_631, kd_632, kd_633, kd_634, kd_635, kd_636, kd_637, kd_639, kd_640, kd_641, kd_642, kd_643, kd_644, kd_645, kd_646, kd_647, kd_648, kd_649, kd_650, kd_654, ln_609, ln_610, ln_611, ln_612, ln_613, ln_614, ln_615, ln_616, ln_617, ln_618, ln_619, ln_620, ln_621, ln_622, ln_623, ln_624, ln_625, ln_626, ln_627, ln_628, ln_629, ln_630, ln_631, ln_632, ln_633, ln_634, ln_635, ln_636, ln_637, ln_639, ln_640, ln_641, ln_642, ln_643, ln_644, ln_645, ln_646, ln_647, ln_648, ln_649, ln_650, ln_654, vl_600_0, vl_600_1, vl_600_2, vl_600_3, vl_600_4, vl_600_5, vl_600_6, vl_600_7, vl_600_8, vl_600_9, vl_600_10, vl_600_11, vl_600_12, vl_600_13, vl_600_14, vl_600_15, vl_600_16, vl_600_17, vl_600_18, vl_600_19, vl_600_20, vl_600_21, vl_600_22, vl_600_23, vl_600_24, vl_600_25, vl_600_26, vl_600_27, vl_600_28, vl_600_29, vl_600_30, vl_600_31, vl_600_32, vl_600_33, vl_600_34, vl_600_35, vl_600_36, vl_600_37, vl_600_38, vl_600_39, vl_600_40, vl_600_41, vl_600_42, vl_600_43, vl_600_44, vl_600_45, vl_600_46, vl_600_47, vl_600_48, vl_600_49, vl_600_50, vl_600_51, vl_600_52, vl_600_53, vl_600_54, show (nI 48 < 48) = False from by decide, hw0]
      rw [hw_same (fun b => if_neg (by omega))]
  | succ n ih =>
    intro j h hj
    have h1 : j < 100000 := by omega
    have h2 : j < 48 := by omega
    have h3 : (nI j < 48) = True := nIl h2 (by decide)
    rw [x_143_12]
    simp only [x_143_13, x_143_15, x_143_18, x_143_19, x_143_22, x_143_23, x_143_24, x_143_25, x_143_28, x_143_31, x_143_32, x_143_35, x_143_36, x_143_39, x_143_40, ldI_z, ldI_s, ldA_z, ldA_s, Option.bind_some, Option.bind_none, List.set_cons_zero, List.set_cons_succ, List.length_nil, List.length_cons, Option.toList_some, Option.toList_none, List.cons_append, List.nil_append, Nat.reduceAdd, Nat.reduceSub, Nat.reduceMul, Nat.reduceLeDiff, Nat.reduceLT, Nat.reduceEqDiff, and_self, true_and, and_true, false_and, and_false, if_true, if_false, reduceIte, ite_true, ite_false, Nat.zero_add, Nat.add_zero, Int32.reduceToNatClampNeg, Int32.reduceLE, Int32.reduceLT, Int32.reduceAdd, Int32.neg_neg, l_00, l_m10, l_e0_1, l_e0_2, l_e0_3, l_e0_4, l_e0_5, l_e0_6, l_e0_7, l_e0_8, l_e1_0, l_e1_2, l_e1_3, l_e1_4, l_e1_5, l_e1_6, l_e1_7, l_e1_8, l_e2_0, l_e2_1, l_e2_3, l_e2_4, l_e2_5, l_e2_6, l_e2_7, l_e2_8, l_e3_0, l_e3_1, l_e3_2, l_e3_4, l_e3_5, l_e3_6, l_e3_7, l_e3_8, l_e4_0, l_e4_1, l_e4_2, l_e4_3, l_e4_5, l_e4_6, l_e4_7, l_e4_8, l_e5_0, l_e5_1, l_e5_2, l_e5_3, l_e5_4, l_e5_6, l_e5_7, l_e5_8, l_e6_0, l_e6_1, l_e6_2, l_e6_3, l_e6_4, l_e6_5, l_e6_7, l_e6_8, l_e7_0, l_e7_1, l_e7_2, l_e7_3, l_e7_4, l_e7_5, l_e7_6, l_e7_8, l_e8_0, l_e8_1, l_e8_2, l_e8_3, l_e8_4, l_e8_5, l_e8_6, l_e8_7, eq_self, Int32.reduceSub, kd_600, kd_609, kd_610, kd_611, kd_612, kd_613, kd_614, kd_615, kd_616, kd_617, kd_618, kd_619, kd_620, kd_621, kd_622, kd_623, kd_624, kd_625, kd_626, kd_627, kd_628, kd_629, kd_630, kd_631, kd_632, kd_633, kd_634, kd_635, kd_636, kd_637, kd_639, kd_640, kd_641, kd_642, kd_643, kd_644, kd_645, kd_646, kd_647, kd_648, kd_649, kd_650, kd_654, ln_609, ln_610, ln_611, ln_612, ln_613, ln_614, ln_615, ln_616, ln_617, ln_618, ln_619, ln_620, ln_621, ln_622, ln_623, ln_624, ln_625, ln_626, ln_627, ln_628, ln_629, ln_630, ln_631, ln_632, ln_633, ln_634, ln_635, ln_636, ln_637, ln_639, ln_640, ln_641, ln_642, ln_643, ln_644, ln_645, ln_646, ln_647, ln_648, ln_649, ln_650, ln_654, vl_600_0, vl_600_1, vl_600_2, vl_600_3, vl_600_4, vl_600_5, vl_600_6, vl_600_7, vl_600_8, vl_600_9, vl_600_10, vl_600_11, vl_600_12, vl_600_13, vl_600_14, vl_600_15, vl_600_16, vl_600_17, vl_600_18, vl_600_19, vl_600_20, vl_600_21, vl_600_22, vl_600_23, vl_600_24, vl_600_25, vl_600_26, vl_600_27, vl_600_28, vl_600_29, vl_600_30, vl_600_31, vl_600_32, vl_600_33, vl_600_34, vl_600_35, vl_600_36, vl_600_37, vl_600_38, vl_600_39, vl_600_40, vl_600_41, vl_600_42, vl_600_43, vl_600_44, vl_600_45, vl_600_46, vl_600_47, vl_600_48, vl_600_49, vl_600_50, vl_600_51, vl_600_52, vl_600_53, vl_600_54, h3, nIc h1, nIg h1, h2, nI_1]
    rw [ih (j + 1) _ (by omega), hw_hu]
    intro b
    by_cases hb : b = j
    · subst hb
      rw [if_neg (by omega), if_pos (by omega), hu_at]
    · rw [hu_j hb]
      by_cases hb2 : j ≤ b ∧ b < 48
      · rw [if_pos hb2, if_pos (by omega)]
      · rw [if_neg hb2, if_neg (by omega)]
set_option maxHeartbeats 1000000 in
theorem rest_loop : ∀ (n j : Nat) (h : Hp), j + n = 8 → ex 125 2 [.ref 600, .int (nI j)] [] h = some (none, hw h 614 (fun b => if j ≤ b ∧ b < 8 then 0 else h 614 b)) := by
  intro n
  induction n with
  | zero =>
    intro j h hj
    have e : j = 8 := by omega
    subst e
    rw [x_125_2]
    simp only [x_125_3, x_125_5, x_125_8, x_125_9, x_125_12, x_125_13, x_125_14, x_125_15, x_125_18, x_125_21, ldI_z, ldI_s, ldA_z, ldA_s, Option.bind_some, Option.bind_none, List.set_cons_zero, List.set_cons_succ, List.length_nil, List.length_cons, Option.toList_some, Option.toList_none, List.cons_append, List.nil_append, Nat.reduceAdd, Nat.reduceSub, Nat.reduceMul, Nat.reduceLeDiff, Nat.reduceLT, Nat.reduceEqDiff, and_self, true_and, and_true, false_and, and_false, if_true, if_false, reduceIte, ite_true, ite_false, Nat.zero_add, Nat.add_zero, Int32.reduceToNatClampNeg, Int32.reduceLE, Int32.reduceLT, Int32.reduceAdd, Int32.neg_neg, l_00, l_m10, l_e0_1, l_e0_2, l_e0_3, l_e0_4, l_e0_5, l_e0_6, l_e0_7, l_e0_8, l_e1_0, l_e1_2, l_e1_3, l_e1_4, l_e1_5, l_e1_6, l_e1_7, l_e1_8, l_e2_0, l_e2_1, l_e2_3, l_e2_4, l_e2_5, l_e2_6, l_e2_7, l_e2_8, l_e3_0, l_e3_1, l_e3_2, l_e3_4, l_e3_5, l_e3_6, l_e3_7, l_e3_8, l_e4_0, l_e4_1, l_e4_2, l_e4_3, l_e4_5, l_e4_6, l_e4_7, l_e4_8, l_e5_0, l_e5_1, l_e5_2, l_e5_3, l_e5_4, l_e5_6, l_e5_7, l_e5_8, l_e6_0, l_e6_1, l_e6_2, l_e6_3, l_e6_4, l_e6_5, l_e6_7, l_e6_8, l_e7_0, l_e7_1, l_e7_2, l_e7_3, l_e7_4, l_e7_5, l_e7_6, l_e7_8, l_e8_0, l_e8_1, l_e8_2, l_e8_3, l_e8_4, l_e8_5, l_e8_6, l_e8_7, eq_self, Int32.reduceSub, kd_600, kd_609, kd_610, kd_611, kd_612, kd_613, kd_614, kd_615, kd_616, kd_617, kd_618, kd_619, kd_620, kd_621, kd_622, kd_623, kd_624, kd_625, kd_626, kd_627, kd_628, kd_629, kd_630, kd_631, kd_632, kd_633, kd_634, kd_635, kd_636, kd_637, kd_639, kd_640, kd_641, kd_642, kd_643, kd_644, kd_645, kd_646, kd_647, kd_648, kd_649, kd_650, kd_654, ln_609, ln_610, ln_611, ln_612, ln_613, ln_614, ln_615, ln_616, ln_617, ln_618, ln_619, ln_620, ln_621, ln_622, ln_623, ln_624, ln_625, ln_626, ln_627, ln_628, ln_629, ln_630, ln_631, ln_632, ln_633, ln_634, ln_635, ln_636, ln_637, ln_639, ln_640, ln_641, ln_642, ln_643, ln_644, ln_645, ln_646, ln_647, ln_648, ln_649, ln_650, ln_654, vl_600_0, vl_600_1, vl_600_2, vl_600_3, vl_600_4, vl_600_5, vl_600_6, vl_600_7, vl_600_8, vl_600_9, vl_600_10, vl_600_11, vl_600_12, vl_600_13, vl_600_14, vl_600_15, vl_600_16, vl_600_17, vl_600_18, vl_600_19, vl_600_20, vl_600_21, vl_600_22, vl_600_23, vl_600_24, vl_600_25, vl_600_26, vl_600_27, vl_600_28, vl_600_29, vl_600_30, vl_600_31, vl_600_32, vl_600_33, vl_600_34, vl_600_35, vl_600_36, vl_600_37, vl_600_38, vl_600_39, vl_600_40, vl_600_41, vl_600_42, vl_600_43, vl_600_44, vl_600_45, vl_600_46, vl_600_47, vl_600_48, vl_600_49, vl_600_50, vl_600_51, vl_600_52, vl_600_53, vl_600_54, show (nI 8 < 8) = False from by decide]
    rw [hw_same (fun b => if_neg (by omega))]
  | succ n ih =>
    intro j h hj
    have h1 : j < 100000 := by omega
    have h2 : j < 8 := by omega
    have h3 : (nI j < 8) = True := nIl h2 (by decide)
    rw [x_125_2]
    simp only [x_125_3, x_125_5, x_125_8, x_125_9, x_125_12, x_125_13, x_125_14, x_125_15, x_125_18, x_125_21, ldI_z, ldI_s, ldA_z, ldA_s, Option.bind_some, Option.bind_none, List.set_cons_zero, List.set_cons_succ, List.length_nil, List.length_cons, Option.toList_some, Option.toList_none, List.cons_append, List.nil_append, Nat.reduceAdd, Nat.reduceSub, Nat.reduceMul, Nat.reduceLeDiff, Nat.reduceLT, Nat.reduceEqDiff, and_self, true_and, and_true, false_and, and_false, if_true, if_false, reduceIte, ite_true, ite_false, Nat.zero_add, Nat.add_zero, Int32.reduceToNatClampNeg, Int32.reduceLE, Int32.reduceLT, Int32.reduceAdd, Int32.neg_neg, l_00, l_m10, l_e0_1, l_e0_2, l_e0_3, l_e0_4, l_e0_5, l_e0_6, l_e0_7, l_e0_8, l_e1_0, l_e1_2, l_e1_3, l_e1_4, l_e1_5, l_e1_6, l_e1_7, l_e1_8, l_e2_0, l_e2_1, l_e2_3, l_e2_4, l_e2_5, l_e2_6, l_e2_7, l_e2_8, l_e3_0, l_e3_1, l_e3_2, l_e3_4, l_e3_5, l_e3_6, l_e3_7, l_e3_8, l_e4_0, l_e4_1, l_e4_2, l_e4_3, l_e4_5, l_e4_6, l_e4_7, l_e4_8, l_e5_0, l_e5_1, l_e5_2, l_e5_3, l_e5_4, l_e5_6, l_e5_7, l_e5_8, l_e6_0, l_e6_1, l_e6_2, l_e6_3, l_e6_4, l_e6_5, l_e6_7, l_e6_8, l_e7_0, l_e7_1, l_e7_2, l_e7_3, l_e7_4, l_e7_5, l_e7_6, l_e7_8, l_e8_0, l_e8_1, l_e8_2, l_e8_3, l_e8_4, l_e8_5, l_e8_6, l_e8_7, eq_self, Int32.reduceSub, kd_600, kd_609, kd_610, kd_611, kd_612, kd_613, kd_614, kd_615, kd_616, kd_617, kd_618, kd_619, kd_620, kd_621, kd_622, kd_623, kd_624, kd_625, kd_626, kd_627, kd_628, kd_629, kd_630, kd_631, kd_632, kd_633, kd_634, kd_635, kd_636, kd_637, kd_639, kd_640, kd_641, kd_642, kd_643, kd_644, kd_645, kd_646, kd_647, kd_648, kd_649, kd_650, kd_654, ln_609, ln_610, ln_611, ln_612, ln_613, ln_614, ln_615, ln_616, ln_617, ln_618, ln_619, ln_620, ln_621, ln_622, ln_623, ln_624, ln_625, ln_626, ln_627, ln_628, ln_629, ln_630, ln_631, ln_632, ln_633, ln_634, ln_635, ln_636, ln_637, ln_639, ln_640, ln_641, ln_642, ln_643, ln_644, ln_645, ln_646, ln_647, ln_648, ln_649, ln_650, ln_654, vl_600_0, vl_600_1, vl_600_2, vl_600_3, vl_600_4, vl_600_5, vl_600_6, vl_600_7, vl_600_8, vl_600_9, vl_600_10, vl_600_11, vl_600_12, vl_600_13, vl_600_14, vl_600_15, vl_600_16, vl_600_17, vl_600_18, vl_600_19, vl_600_20, vl_600_21, vl_600_22, vl_600_23, vl_600_24, vl_600_25, vl_600_26, vl_600_27, vl_600_28, vl_600_29, vl_600_30, vl_600_31, vl_600_32, vl_600_33, vl_600_34, vl_600_35, vl_600_36, vl_600_37, vl_600_38, vl_600_39, vl_600_40, vl_600_41, vl_600_42, vl_600_43, vl_600_44, vl_600_45, vl_600_46, vl_600_47, vl_600_48, vl_600_49, vl_600_50, vl_600_51, vl_600_52, vl_600_53, vl_600_54, h3, nIc h1, nIg h1, h2, nI_1]
    rw [ih (j + 1) _ (by omega), hw_hu]
    intro b
    by_cases hb : b = j
    · subst hb
      rw [if_neg (by omega), if_pos (by omega), hu_at]
    · rw [hu_j hb]
      by_cases hb2 : j ≤ b ∧ b < 8
      · rw [if_pos hb2, if_pos (by omega)]
      · rw [if_neg hb2, if_neg (by omega)]
theorem M_rest {h : Hp} : ex 125 0 [.ref 600, .null] [] h = some (none, hw h 614 (fun b => if b < 8 then 0 else h 614 b)) := by
  simp only [x_125_0, x_125_1, ldI_z, ldI_s, ldA_z, ldA_s, Option.bind_some, Option.bind_none, List.set_cons_zero, List.set_cons_succ, List.length_nil, List.length_cons, Option.toList_some, Option.toList_none, List.cons_append, List.nil_append, Nat.reduceAdd, Nat.reduceSub, Nat.reduceMul, Nat.reduceLeDiff, Nat.reduceLT, Nat.reduceEqDiff, and_self, true_and, and_true, false_and, and_false, if_true, if_false, reduceIte, ite_true, ite_false, Nat.zero_add, Nat.add_zero]
  rw [show (0 : Int32) = nI 0 from rfl, rest_loop 8 0 h (by omega)]
  simp only [Nat.zero_le, true_and]
  rfl
theorem X_rest {h : Hp} {a b : Nat} (hab : (a = 8 ∧ b = 10) ∨ (a = 11 ∧ b = 13)) : ex 14 0 [.ref a] [] h = some (none, hw h b (fun z => if z < 8 then 0 else h b z)) := by
  rcases hab with ⟨rfl, rfl⟩ | ⟨rfl, rfl⟩
  · simp only [x_14_0, x_14_1, x_14_4, x_14_5, x_14_8, ldI_z, ldI_s, ldA_z, ldA_s, Option.bind_some, Option.bind_none, List.set_cons_zero, List.set_cons_succ, List.length_nil, List.length_cons, Option.toList_some, Option.toList_none, List.cons_append, List.nil_append, Nat.reduceAdd, Nat.reduceSub, Nat.reduceMul, Nat.reduceLeDiff, Nat.reduceLT, Nat.reduceEqDiff, and_self, true_and, and_true, false_and, and_false, if_true, if_false, reduceIte, ite_true, ite_false, Nat.zero_add, Nat.add_zero, Int32.reduceToNatClampNeg, Int32.reduceLE, Int32.reduceLT, Int32.reduceAdd, Int32.neg_neg, l_00, l_m10, l_e0_1, l_e0_2, l_e0_3, l_e0_4, l_e0_5, l_e0_6, l_e0_7, l_e0_8, l_e1_0, l_e1_2, l_e1_3, l_e1_4, l_e1_5, l_e1_6, l_e1_7, l_e1_8, l_e2_0, l_e2_1, l_e2_3, l_e2_4, l_e2_5, l_e2_6, l_e2_7, l_e2_8, l_e3_0, l_e3_1, l_e3_2, l_e3_4, l_e3_5, l_e3_6, l_e3_7, l_e3_8, l_e4_0, l_e4_1, l_e4_2, l_e4_3, l_e4_5, l_e4_6, l_e4_7, l_e4_8, l_e5_0, l_e5_1, l_e5_2, l_e5_3, l_e5_4, l_e5_6, l_e5_7, l_e5_8, l_e6_0, l_e6_1, l_e6_2, l_e6_3, l_e6_4, l_e6_5, l_e6_7, l_e6_8, l_e7_0, l_e7_1, l_e7_2, l_e7_3, l_e7_4, l_e7_5, l_e7_6, l_e7_8, l_e8_0, l_e8_1, l_e8_2, l_e8_3, l_e8_4, l_e8_5, l_e8_6, l_e8_7, eq_self, Int32.reduceSub, kd_0, kd_1, kd_2, kd_3, kd_4, kd_5, kd_6, kd_7, kd_8, kd_9, kd_10, kd_11, kd_12, kd_13, kd_14, kd_15, kd_16, kd_sI0, kd_sI1, kd_sI2, kd_sI3, kd_sI4, kd_cI0, kd_cI1, kd_cI2, kd_cI3, kd_cI4, kd_cI5, kd_cI6, kd_rI0, kd_rI1, kd_rI2, kd_rI3, kd_tr, ln_1, ln_2, ln_3, ln_5, ln_7, ln_9, ln_10, ln_12, ln_13, ln_14, ln_15, ln_16, ln_sI1, ln_sI2, ln_sI3, ln_sI4, ln_cI1, ln_cI2, ln_rI1, ln_rI2, ln_rI3, rf_1, rf_2, rf_3, rf_ct, vl_0_0, vl_0_1, vl_0_2, vl_0_3, vl_0_4, vl_0_5, vl_0_6, vl_0_7, vl_0_8, vl_0_9, vl_0_10, vl_0_11, vl_0_12, vl_0_13, vl_0_14, vl_0_15, vl_0_16, vl_4_0, vl_4_1, vl_4_2, vl_6_0, vl_6_1, vl_8_0, vl_8_1, vl_8_2, vl_8_3, vl_11_0, vl_11_1, vl_11_2, vl_11_3, vl_sI_0, vl_sI_1, vl_sI_2, vl_sI_3, vl_sI_4, vl_sI_5, vl_sI_6, vl_sI_7, vl_cI_0, vl_cI_1, vl_cI_2, vl_cI_3, vl_cI_4, vl_cI_5, vl_cI_6, vl_cI_7, vl_cI_8, vl_cI_9, vl_cI_10, vl_cI_11, vl_cI_12, vl_cI_13, vl_rI_0, vl_rI_1, vl_rI_2, vl_rI_3, vl_rI_4, vl_rI_5, vl_rI_6, vl_rI_7, vl_tr_0, vl_tr0_0, vl_tr1_0, vl_tr2_0, vl_tr3_0, vl_tr_1, vl_tr0_1, vl_tr1_1, vl_tr2_1, vl_tr3_1, vl_tr_2, vl_tr0_2, vl_tr1_2, vl_tr2_2, vl_tr3_2, vl_tr_3, vl_tr0_3, vl_tr1_3, vl_tr2_3, vl_tr3_3, vl_tr_4, vl_tr0_4, vl_tr1_4, vl_tr2_4, vl_tr3_4, vl_tr_5, vl_tr0_5, vl_tr1_5, vl_tr2_5, vl_tr3_5, A_fill (k := 10) rfl (by decide)]
    rfl
  · simp only [x_14_0, x_14_1, x_14_4, x_14_5, x_14_8, ldI_z, ldI_s, ldA_z, ldA_s, Option.bind_some, Option.bind_none, List.set_cons_zero, List.set_cons_succ, List.length_nil, List.length_cons, Option.toList_some, Option.toList_none, List.cons_append, List.nil_append, Nat.reduceAdd, Nat.reduceSub, Nat.reduceMul, Nat.reduceLeDiff, Nat.reduceLT, Nat.reduceEqDiff, and_self, true_and, and_true, false_and, and_false, if_true, if_false, reduceIte, ite_true, ite_false, Nat.zero_add, Nat.add_zero, Int32.reduceToNatClampNeg, Int32.reduceLE, Int32.reduceLT, Int32.reduceAdd, Int32.neg_neg, l_00, l_m10, l_e0_1, l_e0_2, l_e0_3, l_e0_4, l_e0_5, l_e0_6, l_e0_7, l_e0_8, l_e1_0, l_e1_2, l_e1_3, l_e1_4, l_e1_5, l_e1_6, l_e1_7, l_e1_8, l_e2_0, l_e2_1, l_e2_3, l_e2_4, l_e2_5, l_e2_6, l_e2_7, l_e2_8, l_e3_0, l_e3_1, l_e3_2, l_e3_4, l_e3_5, l_e3_6, l_e3_7, l_e3_8, l_e4_0, l_e4_1, l_e4_2, l_e4_3, l_e4_5, l_e4_6, l_e4_7, l_e4_8, l_e5_0, l_e5_1, l_e5_2, l_e5_3, l_e5_4, l_e5_6, l_e5_7, l_e5_8, l_e6_0, l_e6_1, l_e6_2, l_e6_3, l_e6_4, l_e6_5, l_e6_7, l_e6_8, l_e7_0, l_e7_1, l_e7_2, l_e7_3, l_e7_4, l_e7_5, l_e7_6, l_e7_8, l_e8_0, l_e8_1, l_e8_2, l_e8_3, l_e8_4, l_e8_5, l_e8_6, l_e8_7, eq_self, Int32.reduceSub, kd_0, kd_1, kd_2, kd_3, kd_4, kd_5, kd_6, kd_7, kd_8, kd_9, kd_10, kd_11, kd_12, kd_13, kd_14, kd_15, kd_16, kd_sI0, kd_sI1, kd_sI2, kd_sI3, kd_sI4, kd_cI0, kd_cI1, kd_cI2, kd_cI3, kd_cI4, kd_cI5, kd_cI6, kd_rI0, kd_rI1, kd_rI2, kd_rI3, kd_tr, ln_1, ln_2, ln_3, ln_5, ln_7, ln_9, ln_10, ln_12, ln_13, ln_14, ln_15, ln_16, ln_sI1, ln_sI2, ln_sI3, ln_sI4, ln_cI1, ln_cI2, ln_rI1, ln_rI2, ln_rI3, rf_1, rf_2, rf_3, rf_ct, vl_0_0, vl_0_1, vl_0_2, vl_0_3, vl_0_4, vl_0_5, vl_0_6, vl_0_7, vl_0_8, vl_0_9, vl_0_10, vl_0_11, vl_0_12, vl_0_13, vl_0_14, vl_0_15, vl_0_16, vl_4_0, vl_4_1, vl_4_2, vl_6_0, vl_6_1, vl_8_0, vl_8_1, vl_8_2, vl_8_3, vl_11_0, vl_11_1, vl_11_2, vl_11_3, vl_sI_0, vl_sI_1, vl_sI_2, vl_sI_3, vl_sI_4, vl_sI_5, vl_sI_6, vl_sI_7, vl_cI_0, vl_cI_1, vl_cI_2, vl_cI_3, vl_cI_4, vl_cI_5, vl_cI_6, vl_cI_7, vl_cI_8, vl_cI_9, vl_cI_10, vl_cI_11, vl_cI_12, vl_cI_13, vl_rI_0, vl_rI_1, vl_rI_2, vl_rI_3, vl_rI_4, vl_rI_5, vl_rI_6, vl_rI_7, vl_tr_0, vl_tr0_0, vl_tr1_0, vl_tr2_0, vl_tr3_0, vl_tr_1, vl_tr0_1, vl_tr1_1, vl_tr2_1, vl_tr3_1, vl_tr_2, vl_tr0_2, vl_tr1_2, vl_tr2_2, vl_tr3_2, vl_tr_3, vl_tr0_3, vl_tr1_3, vl_tr2_3, vl_tr3_3, vl_tr_4, vl_tr0_4, vl_tr1_4, vl_tr2_4, vl_tr3_4, vl_tr_5, vl_tr0_5, vl_tr1_5, vl_tr2_5, vl_tr3_5, A_fill (k := 13) rfl (by decide)]
    rfl
