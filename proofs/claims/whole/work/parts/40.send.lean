/-! ===== send ===== -/
theorem Car_setOff {k : Nat} (hc : k < 11) {x : Hp} {e : Nat} {L : Int32} : ex 4 0 [.ref (cI k 0), .int (nI e), .int L] [] x = some (none, hw (hu (hu (hu (hu x (cI k 0) 7 (nI e)) (cI k 0) 9 L) (cI k 0) 12 0) (cI k 0) 13 1) (cI k 2) (fun b => if b < 3 then 0 else (hu (hu (hu (hu x (cI k 0) 7 (nI e)) (cI k 0) 9 L) (cI k 0) 12 0) (cI k 0) 13 1) (cI k 2) b)) := by
  simp only [x_4_0, x_4_1, x_4_2, x_4_5, x_4_6, x_4_7, x_4_10, x_4_11, x_4_12, x_4_15, x_4_16, x_4_17, x_4_20, x_4_21, x_4_24, x_4_25, x_4_28, gI_s, gA_s, gN_s, gC_s, gC_n, or_true, true_or, or_false, false_or, or_self, ldI_z, ldI_s, ldA_z, ldA_s, Option.bind_some, Option.bind_none, List.set_cons_zero, List.set_cons_succ, List.length_nil, List.length_cons, Option.toList_some, Option.toList_none, List.cons_append, List.nil_append, Nat.reduceAdd, Nat.reduceSub, Nat.reduceMul, Nat.reduceLeDiff, Nat.reduceLT, Nat.reduceEqDiff, and_self, true_and, and_true, false_and, and_false, if_true, if_false, ↓reduceIte, ite_true, ite_false, Nat.zero_add, Nat.add_zero, Int32.reduceToNatClampNeg, Int32.reduceLE, Int32.reduceLT, Int32.reduceAdd, Int32.neg_neg, l_00, l_m10, l_e0_1, l_e0_2, l_e0_3, l_e0_4, l_e0_5, l_e0_6, l_e0_7, l_e0_8, l_e1_0, l_e1_2, l_e1_3, l_e1_4, l_e1_5, l_e1_6, l_e1_7, l_e1_8, l_e2_0, l_e2_1, l_e2_3, l_e2_4, l_e2_5, l_e2_6, l_e2_7, l_e2_8, l_e3_0, l_e3_1, l_e3_2, l_e3_4, l_e3_5, l_e3_6, l_e3_7, l_e3_8, l_e4_0, l_e4_1, l_e4_2, l_e4_3, l_e4_5, l_e4_6, l_e4_7, l_e4_8, l_e5_0, l_e5_1, l_e5_2, l_e5_3, l_e5_4, l_e5_6, l_e5_7, l_e5_8, l_e6_0, l_e6_1, l_e6_2, l_e6_3, l_e6_4, l_e6_5, l_e6_7, l_e6_8, l_e7_0, l_e7_1, l_e7_2, l_e7_3, l_e7_4, l_e7_5, l_e7_6, l_e7_8, l_e8_0, l_e8_1, l_e8_2, l_e8_3, l_e8_4, l_e8_5, l_e8_6, l_e8_7, eq_self, Int32.reduceSub, kd_0, kd_1, kd_2, kd_3, kd_4, kd_5, kd_6, kd_7, kd_8, kd_9, kd_10, kd_11, kd_12, kd_13, kd_14, kd_15, kd_16, kd_sI0, kd_sI1, kd_sI2, kd_sI3, kd_sI4, kd_cI0, kd_cI1, kd_cI2, kd_cI3, kd_cI4, kd_cI5, kd_cI6, kd_rI0, kd_rI1, kd_rI2, kd_rI3, kd_tr, ln_1, ln_2, ln_3, ln_5, ln_7, ln_9, ln_10, ln_12, ln_13, ln_14, ln_15, ln_16, ln_sI1, ln_sI2, ln_sI3, ln_sI4, ln_cI1, ln_cI2, ln_rI1, ln_rI2, ln_rI3, rf_1, rf_2, rf_3, rf_ct, vl_0_0, vl_0_1, vl_0_2, vl_0_3, vl_0_4, vl_0_5, vl_0_6, vl_0_7, vl_0_8, vl_0_9, vl_0_10, vl_0_11, vl_0_12, vl_0_13, vl_0_14, vl_0_15, vl_0_16, vl_4_0, vl_4_1, vl_4_2, vl_6_0, vl_6_1, vl_8_0, vl_8_1, vl_8_2, vl_8_3, vl_11_0, vl_11_1, vl_11_2, vl_11_3, vl_sI_0, vl_sI_1, vl_sI_2, vl_sI_3, vl_sI_4, vl_sI_5, vl_sI_6, vl_sI_7, vl_cI_0, vl_cI_1, vl_cI_2, vl_cI_3, vl_cI_4, vl_cI_5, vl_cI_6, vl_cI_7, vl_cI_8, vl_cI_9, vl_cI_10, vl_cI_11, vl_cI_12, vl_cI_13, vl_rI_0, vl_rI_1, vl_rI_2, vl_rI_3, vl_rI_4, vl_rI_5, vl_rI_6, vl_rI_7, vl_tr_0, vl_tr0_0, vl_tr1_0, vl_tr2_0, vl_tr3_0, vl_tr_1, vl_tr0_1, vl_tr1_1, vl_tr2_1, vl_tr3_1, vl_tr_2, vl_tr0_2, vl_tr1_2, vl_tr2_2, vl_tr3_2, vl_tr_3, vl_tr0_3, vl_tr1_3, vl_tr2_3, vl_tr3_3, vl_tr_4, vl_tr0_4, vl_tr1_4, vl_tr2_4, vl_tr3_4, vl_tr_5, vl_tr0_5, vl_tr1_5, vl_tr2_5, vl_tr3_5, hc, A_fill (k := cI k 2) (kd_cI2 hc) (by rw [ln_cI2 hc]; decide)]
theorem m3 {k q : Nat} : (3 : Int32) * nI k + nI q = nI (3 * k + q) := by rw [show (3 : Int32) = nI 3 from by decide, pk_mul, nI_add]
set_option maxRecDepth 100000 in
theorem M_sends {k : Nat} (hc : k < 11) {m : Hp} {e p : Nat} {L : Int32} (hp : p < 8) (h20 : m 620 k = nI p) (hL : m 613 p = L) : ex 110 0 [.ref 600, .int (nI k), .int (nI e), .null] [] m = some (none, hu (hu (hu (hu (hu (hu (hu m 623 k (nI e)) 627 k 0) 624 k L) 628 k 1) 629 (3 * k) 0) 629 (3 * k + 1) 0) 629 (3 * k + 2) 0) := by
  have k1 : k < 100000 := by omega
  have p1 : p < 100000 := by omega
  have a0 : (3 : Int32) * nI k + 0 = nI (3 * k) := m3 (q := 0)
  have a1 : (3 : Int32) * nI k + 1 = nI (3 * k + 1) := m3 (q := 1)
  have a2 : (3 : Int32) * nI k + 2 = nI (3 * k + 2) := m3 (q := 2)
  have z0 : 3 * k < 100000 := by omega
  have z1 : 3 * k + 1 < 100000 := by omega
  have z2 : 3 * k + 2 < 100000 := by omega
  have y0 : 3 * k < 33 := by omega
  have y1 : 3 * k + 1 < 33 := by omega
  have y2 : 3 * k + 2 < 33 := by omega
  simp only [x_110_0, x_110_1, x_110_4, x_110_5, x_110_6, x_110_7, x_110_8, x_110_11, x_110_12, x_110_13, x_110_14, x_110_15, x_110_18, x_110_19, x_110_20, x_110_23, x_110_24, x_110_27, x_110_28, x_110_29, x_110_30, x_110_31, x_110_32, x_110_35, x_110_36, x_110_37, x_110_38, x_110_39, x_110_40, x_110_41, x_110_42, x_110_45, x_110_46, x_110_49, x_110_50, x_110_51, x_110_52, x_110_53, x_110_54, x_110_55, x_110_56, x_110_59, x_110_62, gI_s, gA_s, gN_s, gC_s, gC_n, or_true, true_or, or_false, false_or, or_self, ldI_z, ldI_s, ldA_z, ldA_s, Option.bind_some, Option.bind_none, List.set_cons_zero, List.set_cons_succ, List.length_nil, List.length_cons, Option.toList_some, Option.toList_none, List.cons_append, List.nil_append, Nat.reduceAdd, Nat.reduceSub, Nat.reduceMul, Nat.reduceLeDiff, Nat.reduceLT, Nat.reduceEqDiff, and_self, true_and, and_true, false_and, and_false, if_true, if_false, ↓reduceIte, ite_true, ite_false, Nat.zero_add, Nat.add_zero, Int32.reduceToNatClampNeg, Int32.reduceLE, Int32.reduceLT, Int32.reduceAdd, Int32.neg_neg, l_00, l_m10, l_e0_1, l_e0_2, l_e0_3, l_e0_4, l_e0_5, l_e0_6, l_e0_7, l_e0_8, l_e1_0, l_e1_2, l_e1_3, l_e1_4, l_e1_5, l_e1_6, l_e1_7, l_e1_8, l_e2_0, l_e2_1, l_e2_3, l_e2_4, l_e2_5, l_e2_6, l_e2_7, l_e2_8, l_e3_0, l_e3_1, l_e3_2, l_e3_4, l_e3_5, l_e3_6, l_e3_7, l_e3_8, l_e4_0, l_e4_1, l_e4_2, l_e4_3, l_e4_5, l_e4_6, l_e4_7, l_e4_8, l_e5_0, l_e5_1, l_e5_2, l_e5_3, l_e5_4, l_e5_6, l_e5_7, l_e5_8, l_e6_0, l_e6_1, l_e6_2, l_e6_3, l_e6_4, l_e6_5, l_e6_7, l_e6_8, l_e7_0, l_e7_1, l_e7_2, l_e7_3, l_e7_4, l_e7_5, l_e7_6, l_e7_8, l_e8_0, l_e8_1, l_e8_2, l_e8_3, l_e8_4, l_e8_5, l_e8_6, l_e8_7, eq_self, Int32.reduceSub, kd_600, kd_609, kd_610, kd_611, kd_612, kd_613, kd_614, kd_615, kd_616, kd_617, kd_618, kd_619, kd_620, kd_621, kd_622, kd_623, kd_624, kd_625, kd_626, kd_627, kd_628, kd_629, kd_630, kd_631, kd_632, kd_633, kd_634, kd_635, kd_636, kd_637, kd_639, kd_640, kd_641, kd_642, kd_643, kd_644, kd_645, kd_646, kd_647, kd_648, kd_649, kd_650, kd_654, ln_609, ln_610, ln_611, ln_612, ln_613, ln_614, ln_615, ln_616, ln_617, ln_618, ln_619, ln_620, ln_621, ln_622, ln_623, ln_624, ln_625, ln_626, ln_627, ln_628, ln_629, ln_630, ln_631, ln_632, ln_633, ln_634, ln_635, ln_636, ln_637, ln_639, ln_640, ln_641, ln_642, ln_643, ln_644, ln_645, ln_646, ln_647, ln_648, ln_649, ln_650, ln_654, vl_600_0, vl_600_1, vl_600_2, vl_600_3, vl_600_4, vl_600_5, vl_600_6, vl_600_7, vl_600_8, vl_600_9, vl_600_10, vl_600_11, vl_600_12, vl_600_13, vl_600_14, vl_600_15, vl_600_16, vl_600_17, vl_600_18, vl_600_19, vl_600_20, vl_600_21, vl_600_22, vl_600_23, vl_600_24, vl_600_25, vl_600_26, vl_600_27, vl_600_28, vl_600_29, vl_600_30, vl_600_31, vl_600_32, vl_600_33, vl_600_34, vl_600_35, vl_600_36, vl_600_37, vl_600_38, vl_600_39, vl_600_40, vl_600_41, vl_600_42, vl_600_43, vl_600_44, vl_600_45, vl_600_46, vl_600_47, vl_600_48, vl_600_49, vl_600_50, vl_600_51, vl_600_52, vl_600_53, vl_600_54, nIc k1, nIg k1, hc, hu_if, h20, nIc p1, nIg p1, hp, hL, a0, a1, a2, nIc z0, nIg z0, nIc z1, nIg z1, nIc z2, nIg z2, y0, y1, y2]
theorem tr_car {k z j : Nat} {q : Nat × Nat × Int × Int} (hk : k < 10) (hz : z < 10) (hq : tr (cI k z) j = some q) : (z = 0 ∧ j = 9 ∧ q = (624, k, 0, 48)) ∨ (z = 0 ∧ j = 12 ∧ q = (627, k, 0, 1)) ∨ (z = 0 ∧ j = 13 ∧ q = (628, k, 0, 1)) ∨ (z = 2 ∧ j < 3 ∧ q = (629, 3 * k + j, -2147483648, 2147483647)) ∨ (¬ (z = 0 ∧ (j = 7 ∨ j = 9 ∨ j = 12 ∨ j = 13)) ∧ z ≠ 2 ∧ q.1 ≠ 623 ∧ q.1 ≠ 624 ∧ q.1 ≠ 627 ∧ q.1 ≠ 628 ∧ q.1 ≠ 629) := by
  by_cases c1 : z = 0 ∧ j = 9
  · obtain ⟨rfl, rfl⟩ := c1
    rw [tr_c9_ k hk] at hq
    cases hq
    exact Or.inl ⟨rfl, rfl, rfl⟩
  by_cases c2 : z = 0 ∧ j = 12
  · obtain ⟨rfl, rfl⟩ := c2
    rw [tr_c12_ k hk] at hq
    cases hq
    exact Or.inr (Or.inl ⟨rfl, rfl, rfl⟩)
  by_cases c3 : z = 0 ∧ j = 13
  · obtain ⟨rfl, rfl⟩ := c3
    rw [tr_c13_ k hk] at hq
    cases hq
    exact Or.inr (Or.inr (Or.inl ⟨rfl, rfl, rfl⟩))
  by_cases c4 : z = 2
  · subst c4
    have hj : j < 3 := by
      obtain ⟨t1, t2, -⟩ := tr_ok hq
      obtain ⟨w1, -⟩ := tr_where hq
      unfold tr cI at hq
      rcases Nat.lt_or_ge j 3 with h | h
      · exact h
      · exfalso
        rw [if_neg (by clear w1; intro z; rcases z with z | z <;> first | omega | (rw [if_pos (Or.inr z)] at hq; cases hq))] at hq
        rw [if_neg (by omega), if_neg (by omega), if_neg (by omega), if_neg (by omega), if_neg (by omega), if_neg (by omega), if_neg (by omega), if_neg (by omega), if_neg (by omega), if_neg (by omega), if_pos (by omega), if_pos (by omega), if_neg (by omega), if_pos (by omega), if_neg (by omega)] at hq
        cases hq
    rw [tr_cl_ k hk j hj] at hq
    cases hq
    exact Or.inr (Or.inr (Or.inr (Or.inl ⟨rfl, hj, rfl⟩)))
  · obtain ⟨t1, t2, -⟩ := tr_ok hq
    obtain ⟨w1, w2⟩ := tr_where hq
    refine Or.inr (Or.inr (Or.inr (Or.inr ⟨?_, c4, ?_, ?_, ?_, ?_, ?_⟩)))
    · rintro ⟨rfl, h | h | h | h⟩
      · subst h
        clear w1 t1
        unfold cI at w2
        omega
      · exact c1 ⟨rfl, h⟩
      · exact c2 ⟨rfl, h⟩
      · exact c3 ⟨rfl, h⟩
    · clear w2 t1; omega
    · intro h
      rw [h] at t1
      simp only [ti, Nat.reduceEqDiff, if_true, if_false, Prod.mk.injEq] at t1
      clear w1 w2
      unfold cI at t1
      exact c1 (by omega)
    · intro h
      rw [h] at t1
      simp only [ti, Nat.reduceEqDiff, if_true, if_false, Prod.mk.injEq] at t1
      clear w1 w2
      unfold cI at t1
      exact c2 (by omega)
    · intro h
      rw [h] at t1
      simp only [ti, Nat.reduceEqDiff, if_true, if_false, Prod.mk.injEq] at t1
      clear w1 w2
      unfold cI at t1
      exact c3 (by omega)
    · intro h
      rw [h] at t1
      simp only [ti, Nat.reduceEqDiff, if_true, if_false, Prod.mk.injEq] at t1
      clear w1 w2
      unfold cI at t1
      exact c4 (by omega)
