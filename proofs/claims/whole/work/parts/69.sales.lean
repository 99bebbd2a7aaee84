/-! ===== the sales of the latest hours ===== -/
def sq (f : Nat → Nat) : Nat → Nat
  | 0 => 0
  | n + 1 => sq f n + f n
theorem sq_congr {f g : Nat → Nat} : ∀ {n : Nat}, (∀ q, q < n → f q = g q) → sq f n = sq g n
  | 0, _ => rfl
  | n + 1, h => by rw [sq, sq, sq_congr (fun q hq => h q (by omega)), h n (by omega)]
theorem sq_add {f g : Nat → Nat} : ∀ (n : Nat), sq (fun q => f q + g q) n = sq f n + sq g n
  | 0 => rfl
  | n + 1 => by rw [sq, sq, sq, sq_add n]; omega
theorem sq_zero {f : Nat → Nat} : ∀ {n : Nat}, (∀ q, q < n → f q = 0) → sq f n = 0
  | 0, _ => rfl
  | n + 1, h => by rw [sq, sq_zero (fun q hq => h q (by omega)), h n (by omega)]
theorem sq_one {f : Nat → Nat} {k : Nat} : ∀ {n : Nat}, k < n → (∀ q, q < n → q ≠ k → f q = 0) → sq f n = f k
  | 0, h, _ => absurd h (Nat.not_lt_zero _)
  | n + 1, h, hz => by
    rw [sq]
    by_cases e : k = n
    · subst e
      rw [sq_zero (fun q hq => hz q (by omega) (by omega))]
      omega
    · rw [sq_one (k := k) (by omega) (fun q hq => hz q (by omega)), hz n (by omega) (by omega)]
      omega
theorem sq_le {f : Nat → Nat} : ∀ (n : Nat), (∀ q, q < n → f q ≤ 1) → sq f n ≤ n
  | 0, _ => Nat.le_refl _
  | n + 1, h => by
    have := sq_le n (fun q hq => h q (by omega))
    have := h n (by omega)
    rw [sq]
    omega
/-- a sale counts for station s in hour hr -/
def sf (A B : Nat → Int32) (s hr : Nat) (i : Nat) : Nat := if A i = nI s ∧ hr < (B i).toInt.toNat + 24 then 1 else 0
theorem sf_le {A B : Nat → Int32} {s hr i : Nat} : sf A B s hr i ≤ 1 := by unfold sf; split <;> omega
theorem sales_eq {A B : Nat → Int32} {y : Nat → Nat} {s hr sn : Nat} (hr1 : hr ≤ 102400) (hy : ∀ q, q < 24 → y q ≤ hr) (hB : ∀ i, i < sn → ∃ v, v ≤ hr ∧ B i = nI v ∧ (A i = nI s → hr < v + 24 → y (v % 24) = v)) :
    ∀ n, n ≤ sn → sq (fun q => if hr < y q + 24 then (if y q % 24 = q then cnt A B s (y q) n else 0) else 0) 24 = sq (sf A B s hr) n := by
  intro n
  induction n with
  | zero =>
    intro _
    exact sq_zero (fun q _ => by split; split <;> rfl; rfl)
  | succ n ih =>
    intro hn
    obtain ⟨v, hv, eB, hs⟩ := hB n (by omega)
    have tv : (B n).toInt.toNat = v := by rw [eB, nI_toInt (by omega)]; omega
    have e : sq (fun q => if hr < y q + 24 then (if y q % 24 = q then cnt A B s (y q) (n + 1) else 0) else 0) 24 = sq (fun q => (if hr < y q + 24 then (if y q % 24 = q then cnt A B s (y q) n else 0) else 0) + (if hr < y q + 24 then (if y q % 24 = q then (if A n = nI s ∧ B n = nI (y q) then 1 else 0) else 0) else 0)) 24 := by
      refine sq_congr (fun q _ => ?_)
      show (if hr < y q + 24 then (if y q % 24 = q then cnt A B s (y q) n + (if A n = nI s ∧ B n = nI (y q) then 1 else 0) else 0) else 0) = _
      by_cases z1 : hr < y q + 24
      · by_cases z2 : y q % 24 = q
        · simp only [z1, z2, if_true]
        · simp only [z1, z2, if_true, if_false]
      · simp only [z1, if_false]
    rw [e, sq_add, ih (by omega), show sq (sf A B s hr) (n + 1) = sq (sf A B s hr) n + sf A B s hr n from rfl]
    congr 1
    have yv : ∀ q, q < 24 → B n = nI (y q) → y q = v := fun q hq h => by
      rw [eB] at h
      exact ((nI_eq (by omega) (by have := hy q hq; omega)).mp h).symm
    unfold sf
    rw [tv]
    by_cases z : A n = nI s ∧ hr < v + 24
    · rw [if_pos z]
      have w := hs z.1 z.2
      rw [sq_one (k := v % 24) (Nat.mod_lt _ (by decide))]
      · rw [w, if_pos z.2, if_pos rfl, if_pos ⟨z.1, eB⟩]
      · intro q hq hne
        split
        · split
          · rename_i h1 h2
            rw [if_neg]
            intro h
            have := yv q hq h.2
            rw [this] at h2
            exact hne h2.symm
          · rfl
        · rfl
    · rw [if_neg z]
      refine sq_zero (fun q hq => ?_)
      split
      · split
        · rename_i h1 h2
          rw [if_neg]
          intro h
          have := yv q hq h.2
          rw [this] at h1
          exact z ⟨h.1, h1⟩
        · rfl
      · rfl
theorem sub24 {hr v : Nat} (h1 : hr ≤ 102400) (h2 : v ≤ 102400) : (nI hr - 24 < nI v) = (hr < v + 24) := by
  rw [Int32.lt_iff_toInt_lt, i_sub (by rw [nI_toInt (by omega), show (24 : Int32).toInt = 24 from by decide]; omega) (by rw [nI_toInt (by omega), show (24 : Int32).toInt = 24 from by decide]; omega), nI_toInt (by omega), nI_toInt (by omega), show (24 : Int32).toInt = 24 from by decide]
  exact propext ⟨fun h => by omega, fun h => by omega⟩
section SL
variable {s hr sn : Nat} {x m : Hp} {y g : Nat → Nat}
theorem X_sales (hs : s < 8) (hr1 : hr ≤ 102400) (hy : ∀ q, q < 24 → y q ≤ hr ∧ x (sI s 3) q = nI (y q) ∧ x (sI s 4) q = nI (g q)) : ∀ (n j : Nat), j + n = 24 → ex 23 4 [.ref (sI s 0), .int (nI hr), .int (nI (sq (fun q => if hr < y q + 24 then g q else 0) j)), .int (nI j)] [] x = some (some (.int (nI (sq (fun q => if hr < y q + 24 then g q else 0) 24))), x) := by
  intro n
  induction n with
  | zero =>
    intro j hj
    have e : j = 24 := by omega
    subst e
    rw [x_23_4]
    simp only [x_23_5, x_23_7, x_23_10, x_23_11, x_23_12, x_23_15, x_23_16, x_23_17, x_23_18, x_23_20, x_23_21, x_23_24, x_23_25, x_23_28, x_23_29, x_23_30, x_23_33, x_23_34, x_23_35, x_23_36, x_23_39, x_23_42, x_23_43, gI_s, gA_s, gN_s, gC_s, gC_n, or_true, true_or, or_false, false_or, or_self, ldI_z, ldI_s, ldA_z, ldA_s, Option.bind_some, Option.bind_none, List.set_cons_zero, List.set_cons_succ, List.length_nil, List.length_cons, Option.toList_some, Option.toList_none, List.cons_append, List.nil_append, Nat.reduceAdd, Nat.reduceSub, Nat.reduceMul, Nat.reduceLeDiff, Nat.reduceLT, Nat.reduceEqDiff, and_self, true_and, and_true, false_and, and_false, if_true, if_false, ↓reduceIte, ite_true, ite_false, Nat.zero_add, Nat.add_zero, Int32.reduceToNatClampNeg, Int32.reduceLE, Int32.reduceLT, Int32.reduceAdd, Int32.neg_neg, l_00, l_m10, l_e0_1, l_e0_2, l_e0_3, l_e0_4, l_e0_5, l_e0_6, l_e0_7, l_e0_8, l_e1_0, l_e1_2, l_e1_3, l_e1_4, l_e1_5, l_e1_6, l_e1_7, l_e1_8, l_e2_0, l_e2_1, l_e2_3, l_e2_4, l_e2_5, l_e2_6, l_e2_7, l_e2_8, l_e3_0, l_e3_1, l_e3_2, l_e3_4, l_e3_5, l_e3_6, l_e3_7, l_e3_8, l_e4_0, l_e4_1, l_e4_2, l_e4_3, l_e4_5, l_e4_6, l_e4_7, l_e4_8, l_e5_0, l_e5_1, l_e5_2, l_e5_3, l_e5_4, l_e5_6, l_e5_7, l_e5_8, l_e6_0, l_e6_1, l_e6_2, l_e6_3, l_e6_4, l_e6_5, l_e6_7, l_e6_8, l_e7_0, l_e7_1, l_e7_2, l_e7_3, l_e7_4, l_e7_5, l_e7_6, l_e7_8, l_e8_0, l_e8_1, l_e8_2, l_e8_3, l_e8_4, l_e8_5, l_e8_6, l_e8_7, eq_self, Int32.reduceSub, kd_0, kd_1, kd_2, kd_3, kd_4, kd_5, kd_6, kd_7, kd_8, kd_9, kd_10, kd_11, kd_12, kd_13, kd_14, kd_15, kd_16, kd_sI0, kd_sI1, kd_sI2, kd_sI3, kd_sI4, kd_cI0, kd_cI1, kd_cI2, kd_cI3, kd_cI4, kd_cI5, kd_cI6, kd_rI0, kd_rI1, kd_rI2, kd_rI3, kd_tr, ln_1, ln_2, ln_3, ln_5, ln_7, ln_9, ln_10, ln_12, ln_13, ln_14, ln_15, ln_16, ln_sI1, ln_sI2, ln_sI3, ln_sI4, ln_cI1, ln_cI2, ln_rI1, ln_rI2, ln_rI3, rf_1, rf_2, rf_3, rf_ct, vl_0_0, vl_0_1, vl_0_2, vl_0_3, vl_0_4, vl_0_5, vl_0_6, vl_0_7, vl_0_8, vl_0_9, vl_0_10, vl_0_11, vl_0_12, vl_0_13, vl_0_14, vl_0_15, vl_0_16, vl_4_0, vl_4_1, vl_4_2, vl_6_0, vl_6_1, vl_8_0, vl_8_1, vl_8_2, vl_8_3, vl_11_0, vl_11_1, vl_11_2, vl_11_3, vl_sI_0, vl_sI_1, vl_sI_2, vl_sI_3, vl_sI_4, vl_sI_5, vl_sI_6, vl_sI_7, vl_cI_0, vl_cI_1, vl_cI_2, vl_cI_3, vl_cI_4, vl_cI_5, vl_cI_6, vl_cI_7, vl_cI_8, vl_cI_9, vl_cI_10, vl_cI_11, vl_cI_12, vl_cI_13, vl_rI_0, vl_rI_1, vl_rI_2, vl_rI_3, vl_rI_4, vl_rI_5, vl_rI_6, vl_rI_7, vl_tr_0, vl_tr0_0, vl_tr1_0, vl_tr2_0, vl_tr3_0, vl_tr_1, vl_tr0_1, vl_tr1_1, vl_tr2_1, vl_tr3_1, vl_tr_2, vl_tr0_2, vl_tr1_2, vl_tr2_2, vl_tr3_2, vl_tr_3, vl_tr0_3, vl_tr1_3, vl_tr2_3, vl_tr3_3, vl_tr_4, vl_tr0_4, vl_tr1_4, vl_tr2_4, vl_tr3_4, vl_tr_5, vl_tr0_5, vl_tr1_5, vl_tr2_5, vl_tr3_5, hs, show (nI 24 < 24) = False from by decide]
  | succ n ih =>
    intro j hj
    have j1 : j < 100000 := by omega
    have j24 : j < 24 := by omega
    have l : (nI j < 24) = True := nIl j24 (by decide)
    obtain ⟨y1, y2, y3⟩ := hy j j24
    have I2 := ih (j + 1) (by omega)
    rw [sq] at I2
    rw [x_23_4]
    by_cases z : hr < y j + 24
    · rw [if_pos z] at I2
      simp only [x_23_5, x_23_7, x_23_10, x_23_11, x_23_12, x_23_15, x_23_16, x_23_17, x_23_18, x_23_20, x_23_21, x_23_24, x_23_25, x_23_28, x_23_29, x_23_30, x_23_33, x_23_34, x_23_35, x_23_36, x_23_39, x_23_42, x_23_43, gI_s, gA_s, gN_s, gC_s, gC_n, or_true, true_or, or_false, false_or, or_self, ldI_z, ldI_s, ldA_z, ldA_s, Option.bind_some, Option.bind_none, List.set_cons_zero, List.set_cons_succ, List.length_nil, List.length_cons, Option.toList_some, Option.toList_none, List.cons_append, List.nil_append, Nat.reduceAdd, Nat.reduceSub, Nat.reduceMul, Nat.reduceLeDiff, Nat.reduceLT, Nat.reduceEqDiff, and_self, true_and, and_true, false_and, and_false, if_true, if_false, ↓reduceIte, ite_true, ite_false, Nat.zero_add, Nat.add_zero, Int32.reduceToNatClampNeg, Int32.reduceLE, Int32.reduceLT, Int32.reduceAdd, Int32.neg_neg, l_00, l_m10, l_e0_1, l_e0_2, l_e0_3, l_e0_4, l_e0_5, l_e0_6, l_e0_7, l_e0_8, l_e1_0, l_e1_2, l_e1_3, l_e1_4, l_e1_5, l_e1_6, l_e1_7, l_e1_8, l_e2_0, l_e2_1, l_e2_3, l_e2_4, l_e2_5, l_e2_6, l_e2_7, l_e2_8, l_e3_0, l_e3_1, l_e3_2, l_e3_4, l_e3_5, l_e3_6, l_e3_7, l_e3_8, l_e4_0, l_e4_1, l_e4_2, l_e4_3, l_e4_5, l_e4_6, l_e4_7, l_e4_8, l_e5_0, l_e5_1, l_e5_2, l_e5_3, l_e5_4, l_e5_6, l_e5_7, l_e5_8, l_e6_0, l_e6_1, l_e6_2, l_e6_3, l_e6_4, l_e6_5, l_e6_7, l_e6_8, l_e7_0, l_e7_1, l_e7_2, l_e7_3, l_e7_4, l_e7_5, l_e7_6, l_e7_8, l_e8_0, l_e8_1, l_e8_2, l_e8_3, l_e8_4, l_e8_5, l_e8_6, l_e8_7, eq_self, Int32.reduceSub, kd_0, kd_1, kd_2, kd_3, kd_4, kd_5, kd_6, kd_7, kd_8, kd_9, kd_10, kd_11, kd_12, kd_13, kd_14, kd_15, kd_16, kd_sI0, kd_sI1, kd_sI2, kd_sI3, kd_sI4, kd_cI0, kd_cI1, kd_cI2, kd_cI3, kd_cI4, kd_cI5, kd_cI6, kd_rI0, kd_rI1, kd_rI2, kd_rI3, kd_tr, ln_1, ln_2, ln_3, ln_5, ln_7, ln_9, ln_10, ln_12, ln_13, ln_14, ln_15, ln_16, ln_sI1, ln_sI2, ln_sI3, ln_sI4, ln_cI1, ln_cI2, ln_rI1, ln_rI2, ln_rI3, rf_1, rf_2, rf_3, rf_ct, vl_0_0, vl_0_1, vl_0_2, vl_0_3, vl_0_4, vl_0_5, vl_0_6, vl_0_7, vl_0_8, vl_0_9, vl_0_10, vl_0_11, vl_0_12, vl_0_13, vl_0_14, vl_0_15, vl_0_16, vl_4_0, vl_4_1, vl_4_2, vl_6_0, vl_6_1, vl_8_0, vl_8_1, vl_8_2, vl_8_3, vl_11_0, vl_11_1, vl_11_2, vl_11_3, vl_sI_0, vl_sI_1, vl_sI_2, vl_sI_3, vl_sI_4, vl_sI_5, vl_sI_6, vl_sI_7, vl_cI_0, vl_cI_1, vl_cI_2, vl_cI_3, vl_cI_4, vl_cI_5, vl_cI_6, vl_cI_7, vl_cI_8, vl_cI_9, vl_cI_10, vl_cI_11, vl_cI_12, vl_cI_13, vl_rI_0, vl_rI_1, vl_rI_2, vl_rI_3, vl_rI_4, vl_rI_5, vl_rI_6, vl_rI_7, vl_tr_0, vl_tr0_0, vl_tr1_0, vl_tr2_0, vl_tr3_0, vl_tr_1, vl_tr0_1, vl_tr1_1, vl_tr2_1, vl_tr3_1, vl_tr_2, vl_tr0_2, vl_tr1_2, vl_tr2_2, vl_tr3_2, vl_tr_3, vl_tr0_3, vl_tr1_3, vl_tr2_3, vl_tr3_3, vl_tr_4, vl_tr0_4, vl_tr1_4, vl_tr2_4, vl_tr3_4, vl_tr_5, vl_tr0_5, vl_tr1_5, vl_tr2_5, vl_tr3_5, hs, l, nIc j1, nIg j1, j24, y2, y3, sub24 hr1 (Nat.le_trans y1 hr1), z, nI_add, nI_1, I2]
    · rw [if_neg z, Nat.add_zero] at I2
      simp only [x_23_5, x_23_7, x_23_10, x_23_11, x_23_12, x_23_15, x_23_16, x_23_17, x_23_18, x_23_20, x_23_21, x_23_24, x_23_25, x_23_28, x_23_29, x_23_30, x_23_33, x_23_34, x_23_35, x_23_36, x_23_39, x_23_42, x_23_43, gI_s, gA_s, gN_s, gC_s, gC_n, or_true, true_or, or_false, false_or, or_self, ldI_z, ldI_s, ldA_z, ldA_s, Option.bind_some, Option.bind_none, List.set_cons_zero, List.set_cons_succ, List.length_nil, List.length_cons, Option.toList_some, Option.toList_none, List.cons_append, List.nil_append, Nat.reduceAdd, Nat.reduceSub, Nat.reduceMul, Nat.reduceLeDiff, Nat.reduceLT, Nat.reduceEqDiff, and_self, true_and, and_true, false_and, and_false, if_true, if_false, ↓reduceIte, ite_true, ite_false, Nat.zero_add, Nat.add_zero, Int32.reduceToNatClampNeg, Int32.reduceLE, Int32.reduceLT, Int32.reduceAdd, Int32.neg_neg, l_00, l_m10, l_e0_1, l_e0_2, l_e0_3, l_e0_4, l_e0_5, l_e0_6, l_e0_7, l_e0_8, l_e1_0, l_e1_2, l_e1_3, l_e1_4, l_e1_5, l_e1_6, l_e1_7, l_e1_8, l_e2_0, l_e2_1, l_e2_3, l_e2_4, l_e2_5, l_e2_6, l_e2_7, l_e2_8, l_e3_0, l_e3_1, l_e3_2, l_e3_4, l_e3_5, l_e3_6, l_e3_7, l_e3_8, l_e4_0, l_e4_1, l_e4_2, l_e4_3, l_e4_5, l_e4_6, l_e4_7, l_e4_8, l_e5_0, l_e5_1, l_e5_2, l_e5_3, l_e5_4, l_e5_6, l_e5_7, l_e5_8, l_e6_0, l_e6_1, l_e6_2, l_e6_3, l_e6_4, l_e6_5, l_e6_7, l_e6_8, l_e7_0, l_e7_1, l_e7_2, l_e7_3, l_e7_4, l_e7_5, l_e7_6, l_e7_8, l_e8_0, l_e8_1, l_e8_2, l_e8_3, l_e8_4, l_e8_5, l_e8_6, l_e8_7, eq_self, Int32.reduceSub, kd_0, kd_1, kd_2, kd_3, kd_4, kd_5, kd_6, kd_7, kd_8, kd_9, kd_10, kd_11, kd_12, kd_13, kd_14, kd_15, kd_16, kd_sI0, kd_sI1, kd_sI2, kd_sI3, kd_sI4, kd_cI0, kd_cI1, kd_cI2, kd_cI3, kd_cI4, kd_cI5, kd_cI6, kd_rI0, kd_rI1, kd_rI2, kd_rI3, kd_tr, ln_1, ln_2, ln_3, ln_5, ln_7, ln_9, ln_10, ln_12, ln_13, ln_14, ln_15, ln_16, ln_sI1, ln_sI2, ln_sI3, ln_sI4, ln_cI1, ln_cI2, ln_rI1, ln_rI2, ln_rI3, rf_1, rf_2, rf_3, rf_ct, vl_0_0, vl_0_1, vl_0_2, vl_0_3, vl_0_4, vl_0_5, vl_0_6, vl_0_7, vl_0_8, vl_0_9, vl_0_10, vl_0_11, vl_0_12, vl_0_13, vl_0_14, vl_0_15, vl_0_16, vl_4_0, vl_4_1, vl_4_2, vl_6_0, vl_6_1, vl_8_0, vl_8_1, vl_8_2, vl_8_3, vl_11_0, vl_11_1, vl_11_2, vl_11_3, vl_sI_0, vl_sI_1, vl_sI_2, vl_sI_3, vl_sI_4, vl_sI_5, vl_sI_6, vl_sI_7, vl_cI_0, vl_cI_1, vl_cI_2, vl_cI_3, vl_cI_4, vl_cI_5, vl_cI_6, vl_cI_7, vl_cI_8, vl_cI_9, vl_cI_10, vl_cI_11, vl_cI_12, vl_cI_13, vl_rI_0, vl_rI_1, vl_rI_2, vl_rI_3, vl_rI_4, vl_rI_5, vl_rI_6, vl_rI_7, vl_tr_0, vl_tr0_0, vl_tr1_0, vl_tr2_0, vl_tr3_0, vl_tr_1, vl_tr0_1, vl_tr1_1, vl_tr2_1, vl_tr3_1, vl_tr_2, vl_tr0_2, vl_tr1_2, vl_tr2_2, vl_tr3_2, vl_tr_3, vl_tr0_3, vl_tr1_3, vl_tr2_3, vl_tr3_3, vl_tr_4, vl_tr0_4, vl_tr1_4, vl_tr2_4, vl_tr3_4, vl_tr_5, vl_tr0_5, vl_tr1_5, vl_tr2_5, vl_tr3_5, hs, l, nIc j1, nIg j1, j24, y2, y3, sub24 hr1 (Nat.le_trans y1 hr1), z, Int32.add_zero, nI_1, I2]
theorem M_sales (hs : s < 8) (hr1 : hr ≤ 102400) (sn1 : sn ≤ 256) (e0 : m 600 0 = nI hr) (e38 : m 600 38 = nI sn) (hB : ∀ i, i < sn → (∃ a, a < 8 ∧ m 636 i = nI a) ∧ ∃ v, v ≤ hr ∧ m 637 i = nI v) : ∀ (n j : Nat), j + n = sn → ex 134 4 [.ref 600, .int (nI s), .int (nI (sq (sf (m 636) (m 637) s hr) j)), .int (nI j)] [] m = some (some (.int (nI (min 20 (sq (sf (m 636) (m 637) s hr) sn)))), m) := by
  intro n
  induction n with
  | zero =>
    intro j hj
    have e : j = sn := by omega
    subst e
    have b := sq_le j (fun q _ => sf_le (A := m 636) (B := m 637) (s := s) (hr := hr) (i := q))
    rw [x_134_4]
    by_cases z : 20 < sq (sf (m 636) (m 637) s hr) j
    · rw [show min 20 (sq (sf (m 636) (m 637) s hr) j) = 20 by omega]
      have l : (20 < nI (sq (sf (m 636) (m 637) s hr) j)) = True := nIl z (by omega)
      simp only [x_134_5, x_134_6, x_134_9, x_134_12, x_134_13, x_134_16, x_134_17, x_134_18, x_134_19, x_134_22, x_134_23, x_134_26, x_134_27, x_134_28, x_134_29, x_134_32, x_134_34, x_134_35, x_134_38, x_134_41, x_134_44, x_134_47, x_134_48, x_134_50, x_134_53, x_134_55, x_134_58, x_134_59, gI_s, gA_s, gN_s, gC_s, gC_n, or_true, true_or, or_false, false_or, or_self, ldI_z, ldI_s, ldA_z, ldA_s, Option.bind_some, Option.bind_none, List.set_cons_zero, List.set_cons_succ, List.length_nil, List.length_cons, Option.toList_some, Option.toList_none, List.cons_append, List.nil_append, Nat.reduceAdd, Nat.reduceSub, Nat.reduceMul, Nat.reduceLeDiff, Nat.reduceLT, Nat.reduceEqDiff, and_self, true_and, and_true, false_and, and_false, if_true, if_false, ↓reduceIte, ite_true, ite_false, Nat.zero_add, Nat.add_zero, Int32.reduceToNatClampNeg, Int32.reduceLE, Int32.reduceLT, Int32.reduceAdd, Int32.neg_neg, l_00, l_m10, l_e0_1, l_e0_2, l_e0_3, l_e0_4, l_e0_5, l_e0_6, l_e0_7, l_e0_8, l_e1_0, l_e1_2, l_e1_3, l_e1_4, l_e1_5, l_e1_6, l_e1_7, l_e1_8, l_e2_0, l_e2_1, l_e2_3, l_e2_4, l_e2_5, l_e2_6, l_e2_7, l_e2_8, l_e3_0, l_e3_1, l_e3_2, l_e3_4, l_e3_5, l_e3_6, l_e3_7, l_e3_8, l_e4_0, l_e4_1, l_e4_2, l_e4_3, l_e4_5, l_e4_6, l_e4_7, l_e4_8, l_e5_0, l_e5_1, l_e5_2, l_e5_3, l_e5_4, l_e5_6, l_e5_7, l_e5_8, l_e6_0, l_e6_1, l_e6_2, l_e6_3, l_e6_4, l_e6_5, l_e6_7, l_e6_8, l_e7_0, l_e7_1, l_e7_2, l_e7_3, l_e7_4, l_e7_5, l_e7_6, l_e7_8, l_e8_0, l_e8_1, l_e8_2, l_e8_3, l_e8_4, l_e8_5, l_e8_6, l_e8_7, eq_self, Int32.reduceSub, kd_600, kd_609, kd_610, kd_611, kd_612, kd_613, kd_614, kd_615, kd_616, kd_617, kd_618, kd_619, kd_620, kd_621, kd_622, kd_623, kd_624, kd_625, kd_626, kd_627, kd_628, kd_629, kd_630, kd_631, kd_632, kd_633, kd_634, kd_635, kd_636, kd_637, kd_639, kd_640, kd_641, kd_642, kd_643, kd_644, kd_645, kd_646, kd_647, kd_648, kd_649, kd_650, kd_654, ln_609, ln_610, ln_611, ln_612, ln_613, ln_614, ln_615, ln_616, ln_617, ln_618, ln_619, ln_620, ln_621, ln_622, ln_623, ln_624, ln_625, ln_626, ln_627, ln_628, ln_629, ln_630, ln_631, ln_632, ln_633, ln_634, ln_635, ln_636, ln_637, ln_639, ln_640, ln_641, ln_642, ln_643, ln_644, ln_645, ln_646, ln_647, ln_648, ln_649, ln_650, ln_654, vl_600_0, vl_600_1, vl_600_2, vl_600_3, vl_600_4, vl_600_5, vl_600_6, vl_600_7, vl_600_8, vl_600_9, vl_600_10, vl_600_11, vl_600_12, vl_600_13, vl_600_14, vl_600_15, vl_600_16, vl_600_17, vl_600_18, vl_600_19, vl_600_20, vl_600_21, vl_600_22, vl_600_23, vl_600_24, vl_600_25, vl_600_26, vl_600_27, vl_600_28, vl_600_29, vl_600_30, vl_600_31, vl_600_32, vl_600_33, vl_600_34, vl_600_35, vl_600_36, vl_600_37, vl_600_38, vl_600_39, vl_600_40, vl_600_41, vl_600_42, vl_600_43, vl_600_44, vl_600_45, vl_600_46, vl_600_47, vl_600_48, vl_600_49, vl_600_50, vl_600_51, vl_600_52, vl_600_53, vl_600_54, e38, nI_nl (Nat.le_refl j) (show j < 100000 by omega), l]
      rfl
    · rw [show min 20 (sq (sf (m 636) (m 637) s hr) j) = sq (sf (m 636) (m 637) s hr) j by omega]
      have l : (20 < nI (sq (sf (m 636) (m 637) s hr) j)) = False := nI_nl (n := sq (sf (m 636) (m 637) s hr) j) (k := 20) (by omega) (by omega)
      simp only [x_134_5, x_134_6, x_134_9, x_134_12, x_134_13, x_134_16, x_134_17, x_134_18, x_134_19, x_134_22, x_134_23, x_134_26, x_134_27, x_134_28, x_134_29, x_134_32, x_134_34, x_134_35, x_134_38, x_134_41, x_134_44, x_134_47, x_134_48, x_134_50, x_134_53, x_134_55, x_134_58, x_134_59, gI_s, gA_s, gN_s, gC_s, gC_n, or_true, true_or, or_false, false_or, or_self, ldI_z, ldI_s, ldA_z, ldA_s, Option.bind_some, Option.bind_none, List.set_cons_zero, List.set_cons_succ, List.length_nil, List.length_cons, Option.toList_some, Option.toList_none, List.cons_append, List.nil_append, Nat.reduceAdd, Nat.reduceSub, Nat.reduceMul, Nat.reduceLeDiff, Nat.reduceLT, Nat.reduceEqDiff, and_self, true_and, and_true, false_and, and_false, if_true, if_false, ↓reduceIte, ite_true, ite_false, Nat.zero_add, Nat.add_zero, Int32.reduceToNatClampNeg, Int32.reduceLE, Int32.reduceLT, Int32.reduceAdd, Int32.neg_neg, l_00, l_m10, l_e0_1, l_e0_2, l_e0_3, l_e0_4, l_e0_5, l_e0_6, l_e0_7, l_e0_8, l_e1_0, l_e1_2, l_e1_3, l_e1_4, l_e1_5, l_e1_6, l_e1_7, l_e1_8, l_e2_0, l_e2_1, l_e2_3, l_e2_4, l_e2_5, l_e2_6, l_e2_7, l_e2_8, l_e3_0, l_e3_1, l_e3_2, l_e3_4, l_e3_5, l_e3_6, l_e3_7, l_e3_8, l_e4_0, l_e4_1, l_e4_2, l_e4_3, l_e4_5, l_e4_6, l_e4_7, l_e4_8, l_e5_0, l_e5_1, l_e5_2, l_e5_3, l_e5_4, l_e5_6, l_e5_7, l_e5_8, l_e6_0, l_e6_1, l_e6_2, l_e6_3, l_e6_4, l_e6_5, l_e6_7, l_e6_8, l_e7_0, l_e7_1, l_e7_2, l_e7_3, l_e7_4, l_e7_5, l_e7_6, l_e7_8, l_e8_0, l_e8_1, l_e8_2, l_e8_3, l_e8_4, l_e8_5, l_e8_6, l_e8_7, eq_self, Int32.reduceSub, kd_600, kd_609, kd_610, kd_611, kd_612, kd_613, kd_614, kd_615, kd_616, kd_617, kd_618, kd_619, kd_620, kd_621, kd_622, kd_623, kd_624, kd_625, kd_626, kd_627, kd_628, kd_629, kd_630, kd_631, kd_632, kd_633, kd_634, kd_635, kd_636, kd_637, kd_639, kd_640, kd_641, kd_642, kd_643, kd_644, kd_645, kd_646, kd_647, kd_648, kd_649, kd_650, kd_654, ln_609, ln_610, ln_611, ln_612, ln_613, ln_614, ln_615, ln_616, ln_617, ln_618, ln_619, ln_620, ln_621, ln_622, ln_623, ln_624, ln_625, ln_626, ln_627, ln_628, ln_629, ln_630, ln_631, ln_632, ln_633, ln_634, ln_635, ln_636, ln_637, ln_639, ln_640, ln_641, ln_642, ln_643, ln_644, ln_645, ln_646, ln_647, ln_648, ln_649, ln_650, ln_654, vl_600_0, vl_600_1, vl_600_2, vl_600_3, vl_600_4, vl_600_5, vl_600_6, vl_600_7, vl_600_8, vl_600_9, vl_600_10, vl_600_11, vl_600_12, vl_600_13, vl_600_14, vl_600_15, vl_600_16, vl_600_17, vl_600_18, vl_600_19, vl_600_20, vl_600_21, vl_600_22, vl_600_23, vl_600_24, vl_600_25, vl_600_26, vl_600_27, vl_600_28, vl_600_29, vl_600_30, vl_600_31, vl_600_32, vl_600_33, vl_600_34, vl_600_35, vl_600_36, vl_600_37, vl_600_38, vl_600_39, vl_600_40, vl_600_41, vl_600_42, vl_600_43, vl_600_44, vl_600_45, vl_600_46, vl_600_47, vl_600_48, vl_600_49, vl_600_50, vl_600_51, vl_600_52, vl_600_53, vl_600_54, e38, nI_nl (Nat.le_refl j) (show j < 100000 by omega), l]
  | succ n ih =>
    intro j hj
    have j1 : j < 100000 := by omega
    have j256 : j < 256 := by omega
    have l : (nI j < nI sn) = True := nIl (by omega) (by omega)
    obtain ⟨⟨a, a8, ea⟩, v, hv, ev⟩ := hB j (by omega)
    have tv : (m 637 j).toInt.toNat = v := by rw [ev, nI_toInt (by omega)]; omega
    have I2 := ih (j + 1) (by omega)
    rw [sq] at I2
    unfold sf at I2
    rw [tv] at I2
    rw [x_134_4]
    by_cases z : m 636 j = nI s
    · by_cases w : hr < v + 24
      · rw [if_pos ⟨z, w⟩] at I2
        simp only [x_134_5, x_134_6, x_134_9, x_134_12, x_134_13, x_134_16, x_134_17, x_134_18, x_134_19, x_134_22, x_134_23, x_134_26, x_134_27, x_134_28, x_134_29, x_134_32, x_134_34, x_134_35, x_134_38, x_134_41, x_134_44, x_134_47, x_134_48, x_134_50, x_134_53, x_134_55, x_134_58, x_134_59, gI_s, gA_s, gN_s, gC_s, gC_n, or_true, true_or, or_false, false_or, or_self, ldI_z, ldI_s, ldA_z, ldA_s, Option.bind_some, Option.bind_none, List.set_cons_zero, List.set_cons_succ, List.length_nil, List.length_cons, Option.toList_some, Option.toList_none, List.cons_append, List.nil_append, Nat.reduceAdd, Nat.reduceSub, Nat.reduceMul, Nat.reduceLeDiff, Nat.reduceLT, Nat.reduceEqDiff, and_self, true_and, and_true, false_and, and_false, if_true, if_false, ↓reduceIte, ite_true, ite_false, Nat.zero_add, Nat.add_zero, Int32.reduceToNatClampNeg, Int32.reduceLE, Int32.reduceLT, Int32.reduceAdd, Int32.neg_neg, l_00, l_m10, l_e0_1, l_e0_2, l_e0_3, l_e0_4, l_e0_5, l_e0_6, l_e0_7, l_e0_8, l_e1_0, l_e1_2, l_e1_3, l_e1_4, l_e1_5, l_e1_6, l_e1_7, l_e1_8, l_e2_0, l_e2_1, l_e2_3, l_e2_4, l_e2_5, l_e2_6, l_e2_7, l_e2_8, l_e3_0, l_e3_1, l_e3_2, l_e3_4, l_e3_5, l_e3_6, l_e3_7, l_e3_8, l_e4_0, l_e4_1, l_e4_2, l_e4_3, l_e4_5, l_e4_6, l_e4_7, l_e4_8, l_e5_0, l_e5_1, l_e5_2, l_e5_3, l_e5_4, l_e5_6, l_e5_7, l_e5_8, l_e6_0, l_e6_1, l_e6_2, l_e6_3, l_e6_4, l_e6_5, l_e6_7, l_e6_8, l_e7_0, l_e7_1, l_e7_2, l_e7_3, l_e7_4, l_e7_5, l_e7_6, l_e7_8, l_e8_0, l_e8_1, l_e8_2, l_e8_3, l_e8_4, l_e8_5, l_e8_6, l_e8_7, eq_self, Int32.reduceSub, kd_600, kd_609, kd_610, kd_611, kd_612, kd_613, kd_614, kd_615, kd_616, kd_617, kd_618, kd_619, kd_620, kd_621, kd_622, kd_623, kd_624, kd_625, kd_626, kd_627, kd_628, kd_629, kd_630, kd_631, kd_632, kd_633, kd_634, kd_635, kd_636, kd_637, kd_639, kd_640, kd_641, kd_642, kd_643, kd_644, kd_645, kd_646, kd_647, kd_648, kd_649, kd_650, kd_654, ln_609, ln_610, ln_611, ln_612, ln_613, ln_614, ln_615, ln_616, ln_617, ln_618, ln_619, ln_620, ln_621, ln_622, ln_623, ln_624, ln_625, ln_626, ln_627, ln_628, ln_629, ln_630, ln_631, ln_632, ln_633, ln_634, ln_635, ln_636, ln_637, ln_639, ln_640, ln_641, ln_642, ln_643, ln_644, ln_645, ln_646, ln_647, ln_648, ln_649, ln_650, ln_654, vl_600_0, vl_600_1, vl_600_2, vl_600_3, vl_600_4, vl_600_5, vl_600_6, vl_600_7, vl_600_8, vl_600_9, vl_600_10, vl_600_11, vl_600_12, vl_600_13, vl_600_14, vl_600_15, vl_600_16, vl_600_17, vl_600_18, vl_600_19, vl_600_20, vl_600_21, vl_600_22, vl_600_23, vl_600_24, vl_600_25, vl_600_26, vl_600_27, vl_600_28, vl_600_29, vl_600_30, vl_600_31, vl_600_32, vl_600_33, vl_600_34, vl_600_35, vl_600_36, vl_600_37, vl_600_38, vl_600_39, vl_600_40, vl_600_41, vl_600_42, vl_600_43, vl_600_44, vl_600_45, vl_600_46, vl_600_47, vl_600_48, vl_600_49, vl_600_50, vl_600_51, vl_600_52, vl_600_53, vl_600_54, e38, e0, l, nIc j1, nIg j1, j256, z, ev, sub24 hr1 (Nat.le_trans hv hr1), w, nI_1]
        exact I2
      · rw [if_neg (fun q => w q.2), Nat.add_zero] at I2
        simp only [x_134_5, x_134_6, x_134_9, x_134_12, x_134_13, x_134_16, x_134_17, x_134_18, x_134_19, x_134_22, x_134_23, x_134_26, x_134_27, x_134_28, x_134_29, x_134_32, x_134_34, x_134_35, x_134_38, x_134_41, x_134_44, x_134_47, x_134_48, x_134_50, x_134_53, x_134_55, x_134_58, x_134_59, gI_s, gA_s, gN_s, gC_s, gC_n, or_true, true_or, or_false, false_or, or_self, ldI_z, ldI_s, ldA_z, ldA_s, Option.bind_some, Option.bind_none, List.set_cons_zero, List.set_cons_succ, List.length_nil, List.length_cons, Option.toList_some, Option.toList_none, List.cons_append, List.nil_append, Nat.reduceAdd, Nat.reduceSub, Nat.reduceMul, Nat.reduceLeDiff, Nat.reduceLT, Nat.reduceEqDiff, and_self, true_and, and_true, false_and, and_false, if_true, if_false, ↓reduceIte, ite_true, ite_false, Nat.zero_add, Nat.add_zero, Int32.reduceToNatClampNeg, Int32.reduceLE, Int32.reduceLT, Int32.reduceAdd, Int32.neg_neg, l_00, l_m10, l_e0_1, l_e0_2, l_e0_3, l_e0_4, l_e0_5, l_e0_6, l_e0_7, l_e0_8, l_e1_0, l_e1_2, l_e1_3, l_e1_4, l_e1_5, l_e1_6, l_e1_7, l_e1_8, l_e2_0, l_e2_1, l_e2_3, l_e2_4, l_e2_5, l_e2_6, l_e2_7, l_e2_8, l_e3_0, l_e3_1, l_e3_2, l_e3_4, l_e3_5, l_e3_6, l_e3_7, l_e3_8, l_e4_0, l_e4_1, l_e4_2, l_e4_3, l_e4_5, l_e4_6, l_e4_7, l_e4_8, l_e5_0, l_e5_1, l_e5_2, l_e5_3, l_e5_4, l_e5_6, l_e5_7, l_e5_8, l_e6_0, l_e6_1, l_e6_2, l_e6_3, l_e6_4, l_e6_5, l_e6_7, l_e6_8, l_e7_0, l_e7_1, l_e7_2, l_e7_3, l_e7_4, l_e7_5, l_e7_6, l_e7_8, l_e8_0, l_e8_1, l_e8_2, l_e8_3, l_e8_4, l_e8_5, l_e8_6, l_e8_7, eq_self, Int32.reduceSub, kd_600, kd_609, kd_610, kd_611, kd_612, kd_613, kd_614, kd_615, kd_616, kd_617, kd_618, kd_619, kd_620, kd_621, kd_622, kd_623, kd_624, kd_625, kd_626, kd_627, kd_628, kd_629, kd_630, kd_631, kd_632, kd_633, kd_634, kd_635, kd_636, kd_637, kd_639, kd_640, kd_641, kd_642, kd_643, kd_644, kd_645, kd_646, kd_647, kd_648, kd_649, kd_650, kd_654, ln_609, ln_610, ln_611, ln_612, ln_613, ln_614, ln_615, ln_616, ln_617, ln_618, ln_619, ln_620, ln_621, ln_622, ln_623, ln_624, ln_625, ln_626, ln_627, ln_628, ln_629, ln_630, ln_631, ln_632, ln_633, ln_634, ln_635, ln_636, ln_637, ln_639, ln_640, ln_641, ln_642, ln_643, ln_644, ln_645, ln_646, ln_647, ln_648, ln_649, ln_650, ln_654, vl_600_0, vl_600_1, vl_600_2, vl_600_3, vl_600_4, vl_600_5, vl_600_6, vl_600_7, vl_600_8, vl_600_9, vl_600_10, vl_600_11, vl_600_12, vl_600_13, vl_600_14, vl_600_15, vl_600_16, vl_600_17, vl_600_18, vl_600_19, vl_600_20, vl_600_21, vl_600_22, vl_600_23, vl_600_24, vl_600_25, vl_600_26, vl_600_27, vl_600_28, vl_600_29, vl_600_30, vl_600_31, vl_600_32, vl_600_33, vl_600_34, vl_600_35, vl_600_36, vl_600_37, vl_600_38, vl_600_39, vl_600_40, vl_600_41, vl_600_42, vl_600_43, vl_600_44, vl_600_45, vl_600_46, vl_600_47, vl_600_48, vl_600_49, vl_600_50, vl_600_51, vl_600_52, vl_600_53, vl_600_54, e38, e0, l, nIc j1, nIg j1, j256, z, ev, sub24 hr1 (Nat.le_trans hv hr1), w, nI_1]
        exact I2
    · rw [if_neg (fun q => z q.1), Nat.add_zero] at I2
      simp only [x_134_5, x_134_6, x_134_9, x_134_12, x_134_13, x_134_16, x_134_17, x_134_18, x_134_19, x_134_22, x_134_23, x_134_26, x_134_27, x_134_28, x_134_29, x_134_32, x_134_34, x_134_35, x_134_38, x_134_41, x_134_44, x_134_47, x_134_48, x_134_50, x_134_53, x_134_55, x_134_58, x_134_59, gI_s, gA_s, gN_s, gC_s, gC_n, or_true, true_or, or_false, false_or, or_self, ldI_z, ldI_s, ldA_z, ldA_s, Option.bind_some, Option.bind_none, List.set_cons_zero, List.set_cons_succ, List.length_nil, List.length_cons, Option.toList_some, Option.toList_none, List.cons_append, List.nil_append, Nat.reduceAdd, Nat.reduceSub, Nat.reduceMul, Nat.reduceLeDiff, Nat.reduceLT, Nat.reduceEqDiff, and_self, true_and, and_true, false_and, and_false, if_true, if_false, ↓reduceIte, ite_true, ite_false, Nat.zero_add, Nat.add_zero, Int32.reduceToNatClampNeg, Int32.reduceLE, Int32.reduceLT, Int32.reduceAdd, Int32.neg_neg, l_00, l_m10, l_e0_1, l_e0_2, l_e0_3, l_e0_4, l_e0_5, l_e0_6, l_e0_7, l_e0_8, l_e1_0, l_e1_2, l_e1_3, l_e1_4, l_e1_5, l_e1_6, l_e1_7, l_e1_8, l_e2_0, l_e2_1, l_e2_3, l_e2_4, l_e2_5, l_e2_6, l_e2_7, l_e2_8, l_e3_0, l_e3_1, l_e3_2, l_e3_4, l_e3_5, l_e3_6, l_e3_7, l_e3_8, l_e4_0, l_e4_1, l_e4_2, l_e4_3, l_e4_5, l_e4_6, l_e4_7, l_e4_8, l_e5_0, l_e5_1, l_e5_2, l_e5_3, l_e5_4, l_e5_6, l_e5_7, l_e5_8, l_e6_0, l_e6_1, l_e6_2, l_e6_3, l_e6_4, l_e6_5, l_e6_7, l_e6_8, l_e7_0, l_e7_1, l_e7_2, l_e7_3, l_e7_4, l_e7_5, l_e7_6, l_e7_8, l_e8_0, l_e8_1, l_e8_2, l_e8_3, l_e8_4, l_e8_5, l_e8_6, l_e8_7, eq_self, Int32.reduceSub, kd_600, kd_609, kd_610, kd_611, kd_612, kd_613, kd_614, kd_615, kd_616, kd_617, kd_618, kd_619, kd_620, kd_621, kd_622, kd_623, kd_624, kd_625, kd_626, kd_627, kd_628, kd_629, kd_630, kd_631, kd_632, kd_633, kd_634, kd_635, kd_636, kd_637, kd_639, kd_640, kd_641, kd_642, kd_643, kd_644, kd_645, kd_646, kd_647, kd_648, kd_649, kd_650, kd_654, ln_609, ln_610, ln_611, ln_612, ln_613, ln_614, ln_615, ln_616, ln_617, ln_618, ln_619, ln_620, ln_621, ln_622, ln_623, ln_624, ln_625, ln_626, ln_627, ln_628, ln_629, ln_630, ln_631, ln_632, ln_633, ln_634, ln_635, ln_636, ln_637, ln_639, ln_640, ln_641, ln_642, ln_643, ln_644, ln_645, ln_646, ln_647, ln_648, ln_649, ln_650, ln_654, vl_600_0, vl_600_1, vl_600_2, vl_600_3, vl_600_4, vl_600_5, vl_600_6, vl_600_7, vl_600_8, vl_600_9, vl_600_10, vl_600_11, vl_600_12, vl_600_13, vl_600_14, vl_600_15, vl_600_16, vl_600_17, vl_600_18, vl_600_19, vl_600_20, vl_600_21, vl_600_22, vl_600_23, vl_600_24, vl_600_25, vl_600_26, vl_600_27, vl_600_28, vl_600_29, vl_600_30, vl_600_31, vl_600_32, vl_600_33, vl_600_34, vl_600_35, vl_600_36, vl_600_37, vl_600_38, vl_600_39, vl_600_40, vl_600_41, vl_600_42, vl_600_43, vl_600_44, vl_600_45, vl_600_46, vl_600_47, vl_600_48, vl_600_49, vl_600_50, vl_600_51, vl_600_52, vl_600_53, vl_600_54, e38, e0, l, nIc j1, nIg j1, j256, z, nI_1]
      exact I2
/-- both count the same sales -/
theorem two_sales (hs : s < 8) (hr1 : hr ≤ 102400) (sn1 : sn ≤ 256) (I : I5 hr sn (mix x m)) (e0 : m 600 0 = nI hr) (e38 : m 600 38 = nI sn) : ∃ k, k ≤ 256 ∧ ex 23 0 [.ref (sI s 0), .int (nI hr), .null, .null] [] x = some (some (.int (nI k)), x) ∧ ex 134 0 [.ref 600, .int (nI s), .null, .null] [] m = some (some (.int (nI (min 20 k))), m) := by
  obtain ⟨a, b⟩ := I
  simp only [mix_sI, mix_636, mix_637] at a b
  have B := fun q hq => b s hs q hq
  have tY : ∀ q, q < 24 → (x (sI s 3) q).toInt.toNat ≤ hr ∧ x (sI s 3) q = nI (x (sI s 3) q).toInt.toNat ∧ x (sI s 4) q = nI (if (x (sI s 3) q).toInt.toNat % 24 = q then cnt (m 636) (m 637) s (x (sI s 3) q).toInt.toNat sn else 0) := fun q hq => by
    obtain ⟨v, h1, h2, h3⟩ := B q hq
    have : (x (sI s 3) q).toInt.toNat = v := by rw [h2, nI_toInt (by omega)]; omega
    rw [this]
    exact ⟨h1, h2, h3⟩
  have X := X_sales (y := fun q => (x (sI s 3) q).toInt.toNat) (g := fun q => if (x (sI s 3) q).toInt.toNat % 24 = q then cnt (m 636) (m 637) s (x (sI s 3) q).toInt.toNat sn else 0) hs hr1 tY 24 0 (by omega)
  have E := sales_eq (A := m 636) (B := m 637) (y := fun q => (x (sI s 3) q).toInt.toNat) (s := s) (sn := sn) hr1 (fun q hq => (tY q hq).1) (fun i hi => by
    obtain ⟨s', v, h1, h2, h3, h4, h5⟩ := a i hi
    refine ⟨v, h2, h4, fun h6 h7 => ?_⟩
    have : s' = s := nI_inj (by omega) (by omega) (h3.symm.trans h6)
    subst this
    show (x (sI s' 3) (v % 24)).toInt.toNat = v
    rw [h5 h7, nI_toInt (by omega)]
    omega) sn (Nat.le_refl _)
  have M := M_sales (s := s) hs hr1 sn1 e0 e38 (fun i hi => by
    obtain ⟨s', v, h1, h2, h3, h4, h5⟩ := a i hi
    exact ⟨⟨s', h1, h3⟩, v, h2, h4⟩) sn 0 (by omega)
  rw [E] at X
  refine ⟨sq (sf (m 636) (m 637) s hr) sn, Nat.le_trans (sq_le sn (fun q _ => sf_le)) sn1, ?_, ?_⟩
  · rw [show nI 0 = 0 from by decide] at X
    simp only [sq] at X
    rw [show nI 0 = 0 from by decide] at X
    simp only [x_23_0, x_23_1, x_23_2, x_23_3, gI_s, gA_s, gN_s, gC_s, gC_n, or_true, true_or, or_false, false_or, or_self, ldI_z, ldI_s, ldA_z, ldA_s, Option.bind_some, Option.bind_none, List.set_cons_zero, List.set_cons_succ, List.length_nil, List.length_cons, Option.toList_some, Option.toList_none, List.cons_append, List.nil_append, Nat.reduceAdd, Nat.reduceSub, Nat.reduceMul, Nat.reduceLeDiff, Nat.reduceLT, Nat.reduceEqDiff, and_self, true_and, and_true, false_and, and_false, if_true, if_false, ↓reduceIte, ite_true, ite_false, Nat.zero_add, Nat.add_zero, Int32.reduceToNatClampNeg, Int32.reduceLE, Int32.reduceLT, Int32.reduceAdd, Int32.neg_neg, l_00, l_m10, l_e0_1, l_e0_2, l_e0_3, l_e0_4, l_e0_5, l_e0_6, l_e0_7, l_e0_8, l_e1_0, l_e1_2, l_e1_3, l_e1_4, l_e1_5, l_e1_6, l_e1_7, l_e1_8, l_e2_0, l_e2_1, l_e2_3, l_e2_4, l_e2_5, l_e2_6, l_e2_7, l_e2_8, l_e3_0, l_e3_1, l_e3_2, l_e3_4, l_e3_5, l_e3_6, l_e3_7, l_e3_8, l_e4_0, l_e4_1, l_e4_2, l_e4_3, l_e4_5, l_e4_6, l_e4_7, l_e4_8, l_e5_0, l_e5_1, l_e5_2, l_e5_3, l_e5_4, l_e5_6, l_e5_7, l_e5_8, l_e6_0, l_e6_1, l_e6_2, l_e6_3, l_e6_4, l_e6_5, l_e6_7, l_e6_8, l_e7_0, l_e7_1, l_e7_2, l_e7_3, l_e7_4, l_e7_5, l_e7_6, l_e7_8, l_e8_0, l_e8_1, l_e8_2, l_e8_3, l_e8_4, l_e8_5, l_e8_6, l_e8_7, eq_self, Int32.reduceSub]
    exact X
  · rw [show nI 0 = 0 from by decide] at M
    simp only [sq] at M
    rw [show nI 0 = 0 from by decide] at M
    simp only [x_134_0, x_134_1, x_134_2, x_134_3, gI_s, gA_s, gN_s, gC_s, gC_n, or_true, true_or, or_false, false_or, or_self, ldI_z, ldI_s, ldA_z, ldA_s, Option.bind_some, Option.bind_none, List.set_cons_zero, List.set_cons_succ, List.length_nil, List.length_cons, Option.toList_some, Option.toList_none, List.cons_append, List.nil_append, Nat.reduceAdd, Nat.reduceSub, Nat.reduceMul, Nat.reduceLeDiff, Nat.reduceLT, Nat.reduceEqDiff, and_self, true_and, and_true, false_and, and_false, if_true, if_false, ↓reduceIte, ite_true, ite_false, Nat.zero_add, Nat.add_zero, Int32.reduceToNatClampNeg, Int32.reduceLE, Int32.reduceLT, Int32.reduceAdd, Int32.neg_neg, l_00, l_m10, l_e0_1, l_e0_2, l_e0_3, l_e0_4, l_e0_5, l_e0_6, l_e0_7, l_e0_8, l_e1_0, l_e1_2, l_e1_3, l_e1_4, l_e1_5, l_e1_6, l_e1_7, l_e1_8, l_e2_0, l_e2_1, l_e2_3, l_e2_4, l_e2_5, l_e2_6, l_e2_7, l_e2_8, l_e3_0, l_e3_1, l_e3_2, l_e3_4, l_e3_5, l_e3_6, l_e3_7, l_e3_8, l_e4_0, l_e4_1, l_e4_2, l_e4_3, l_e4_5, l_e4_6, l_e4_7, l_e4_8, l_e5_0, l_e5_1, l_e5_2, l_e5_3, l_e5_4, l_e5_6, l_e5_7, l_e5_8, l_e6_0, l_e6_1, l_e6_2, l_e6_3, l_e6_4, l_e6_5, l_e6_7, l_e6_8, l_e7_0, l_e7_1, l_e7_2, l_e7_3, l_e7_4, l_e7_5, l_e7_6, l_e7_8, l_e8_0, l_e8_1, l_e8_2, l_e8_3, l_e8_4, l_e8_5, l_e8_6, l_e8_7, eq_self, Int32.reduceSub]
    exact M
end SL
