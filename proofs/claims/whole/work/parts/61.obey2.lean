/-! ===== the rules are obeyed, both sides ===== -/
def oXF (ia c a b : Nat) : Prop := (a = cI c 0 ∧ (b = 4 ∨ b = 5 ∨ b = 10 ∨ b = 11)) ∨ (a = ia ∧ b = 2) ∨ a = ia + 1 ∨ a = ia + 2 ∨ a = 15
def oMF (c a b : Nat) : Prop := ((a = 618 ∨ a = 619 ∨ a = 625 ∨ a = 626) ∧ b = c) ∨ a = 610 ∨ a = 614 ∨ (a = 600 ∧ b = 5)
section OB2
variable {ia c p n ns nr hr : Nat} {x m : Hp} {u : Int32}
set_option maxHeartbeats 2000000 in
theorem two_obey (hia : ia = 8 ∨ ia = 11) (hc : c < 11) (hu0 : 0 ≤ u) (S : Sta ns nr x m) (Q : IceR ia x m) (C : Cor ns hr n c x m) (h22 : m 622 c = 0) :
    ∃ x' m', ex 73 0 [.ref 0, .ref (cI c 0), .ref ia, .int u, .int (oM m c u), .null, .null, .null] [] x = some (none, x') ∧ ex 127 0 [.ref 600, .int (nI c), .int u, .int (nI n), .null, .null, .null, .null] [] m = some (none, m')
    ∧ (∀ a b, ¬ oXF ia c a b → x' a b = x a b) ∧ (∀ a b, ¬ oMF c a b → m' a b = m a b) ∧ IceR ia x' m' ∧ pB c x' m' ∧ pV c x' m' ∧ (Ext ia c x m → Ext ia c x' m') := by
  obtain ⟨s1, s2, s3, ⟨s4, s4', s4''⟩, s5, s6, s7⟩ := S
  obtain ⟨A, B, V, W, T⟩ := C
  have F := fX_F (u := u) hc A B W T
  obtain ⟨p, hp, w6, w20, -⟩ := W
  have p8 : p < 8 := by omega
  obtain ⟨⟨q1, q2, q3⟩, q4, q5, q6⟩ := Q p p8
  obtain ⟨⟨g1, g2, g3⟩, -⟩ := s2 p p8
  have EX := X_obey (u := u) hia hc s4'' p8 s4 s6 w6 F
  have EM := M_obey (n := n) hc s4'' p8 s4' s6 w20 h22 hu0 B.2 ⟨g2, g3⟩ ⟨q5, q6⟩ q2
  rw [B.1, q1, g1, q4] at EX
  have wr := wnt_rng (v := nbr m (lastR (kb m 0 u (fv m c u n)) nr)) (i := m 618 c) (by
    rcases nbr_rng s4'' s6 (P := kb m 0 u (fv m c u n)) with ⟨-, e⟩ | ⟨r, -, -, e, b1, b2⟩
    · rw [e]; decide
    · rw [e]; omega) B.2.1 B.2.2
  generalize wnt (nbr m (lastR (kb m 0 u (fv m c u n)) nr)) (m 618 c) = Wt at EX EM wr
  have W0 : 0 ≤ Wt.toInt ∧ Wt.toInt + (m 618 c).toInt ≤ 100 := by
    rcases wr with w | w
    · exact w
    · rw [w, show (0 : Int32).toInt = 0 from by decide]
      have := B.2.2
      omega
  have fr : (m 611 p - m 614 p).toInt = (m 611 p).toInt - (m 614 p).toInt := i_sub (by omega) (by omega)
  have gr := gv_rng (W := Wt) (S := m 610 p) (f := m 611 p - m 614 p) W0.1 q2 (by rw [fr]; omega)
  rw [fr] at gr
  generalize gv Wt (m 610 p) (m 611 p - m 614 p) = G at EX EM gr
  generalize lastR (kb m 1 u (fv m c u n)) nr = AV at EX EM
  have VX : ∀ a b, ¬ (a = cI c 0 ∧ b = 5) → a ≠ 15 → ventX m c (fX c (oM m c u) x) AV a b = x a b := fun a b h h' => by rw [ventX_o h, fX_o h']
  have VM : ∀ a b, ¬ ((a = 619 ∨ a = 626) ∧ b = c) → hu (ventM m c AV) 626 c 0 a b = m a b := fun a b h => by rw [hu_if, if_neg (by omega), ventM_o (by omega)]
  have VV : ventX m c (fX c (oM m c u) x) AV (cI c 0) 5 = hu (ventM m c AV) 626 c 0 619 c ∧ (hu (ventM m c AV) 626 c 0 619 c = 0 ∨ hu (ventM m c AV) 626 c 0 619 c = 1) := by
    rw [hu_k (by decide)]
    cases AV with
    | none =>
      show fX c (oM m c u) x (cI c 0) 5 = m 619 c ∧ (m 619 c = 0 ∨ m 619 c = 1)
      rw [fX_o (by unfold cI; omega)]
      exact V
    | some r =>
      show hu _ _ _ _ _ _ = hu _ _ _ _ _ _ ∧ (hu _ _ _ _ _ _ = _ ∨ hu _ _ _ _ _ _ = _)
      rw [hu_at, hu_at]
      refine ⟨rfl, ?_⟩
      by_cases z : m 640 r = 0
      · rw [if_pos z]; exact Or.inl rfl
      · rw [if_neg z]; exact Or.inr rfl
  generalize ventX m c (fX c (oM m c u) x) AV = y at EX VX VV
  generalize hu (ventM m c AV) 626 c 0 = w at EM VM VV
  have ib0 := B.2.1
  have ib1 := B.2.2
  have c1000 : 1001 ≤ cI c 0 := by unfold cI; omega
  have y4 : y (cI c 0) 4 = m 618 c := by rw [VX _ _ (by omega) (by omega)]; exact B.1
  have ys : ∀ s, s < 8 → y (ia + 1) s = m 610 s := fun s hs => by rw [VX _ _ (by omega) (by omega)]; exact (Q s hs).1.1
  have yu : ∀ s, s < 8 → y (ia + 2) s = m 614 s := fun s hs => by rw [VX _ _ (by omega) (by omega)]; exact (Q s hs).2.1
  have y10 : y (cI c 0) 10 = x (cI c 0) 10 := VX _ _ (by omega) (by omega)
  have y2 : y ia 2 = x ia 2 := VX _ _ (by omega) (by omega)
  have w18 : w 618 c = m 618 c := VM _ _ (by omega)
  have w10 : ∀ s, w 610 s = m 610 s := fun s => VM _ _ (by omega)
  have w14 : ∀ s, w 614 s = m 614 s := fun s => VM _ _ (by omega)
  have w11 : ∀ s, w 611 s = m 611 s := fun s => VM _ _ (by omega)
  have w25 : w 625 c = m 625 c := VM _ _ (by omega)
  have w05 : w 600 5 = m 600 5 := VM _ _ (by omega)
  refine ⟨_, _, EX, EM, fun a b h => ?_, fun a b h => ?_, ?_, ?_, ?_, ?_⟩
  · unfold oXF at h
    unfold gX
    rw [hu_if, if_neg (by omega), hu_if, if_neg (by omega), hu_if, if_neg (by omega), hu_if, if_neg (by omega), hu_if, if_neg (by omega), hu_if, if_neg (by omega)]
    exact VX a b (by omega) (by omega)
  · unfold oMF at h
    unfold gM
    rw [hu_if, if_neg (by omega), hu_if, if_neg (by omega), hu_if, if_neg (by omega), hu_if, if_neg (by omega), hu_if, if_neg (by omega), hu_if, if_neg (by omega)]
    exact VM a b (by omega)
  · intro s hs
    obtain ⟨⟨a1, a2, a3⟩, a4, a5, a6⟩ := Q s hs
    unfold gX gM
    have x1 : hu (hu (hu (hu (hu (hu y (ia + 2) p (y (ia + 2) p + G)) (ia + 1) p (y (ia + 1) p - G)) (cI c 0) 4 (y (cI c 0) 4 + G)) ia 2 (y ia 2 + G)) (cI c 0) 10 (y (cI c 0) 10 + (Wt - G))) (cI c 0) 11 (bi (G < Wt)) (ia + 1) s = if s = p then m 610 p - G else m 610 s := by
      rw [hu_k (by omega), hu_k (by omega), hu_k (by omega), hu_k (by omega), hu_if]
      by_cases z : s = p
      · subst z; rw [if_pos ⟨rfl, rfl⟩, if_pos rfl, ys s hs]
      · rw [if_neg (by omega), if_neg z, hu_k (by omega), ys s hs]
    have x2 : hu (hu (hu (hu (hu (hu y (ia + 2) p (y (ia + 2) p + G)) (ia + 1) p (y (ia + 1) p - G)) (cI c 0) 4 (y (cI c 0) 4 + G)) ia 2 (y ia 2 + G)) (cI c 0) 10 (y (cI c 0) 10 + (Wt - G))) (cI c 0) 11 (bi (G < Wt)) (ia + 2) s = if s = p then m 614 p + G else m 614 s := by
      rw [hu_k (by omega), hu_k (by omega), hu_k (by omega), hu_k (by omega), hu_k (by omega), hu_if]
      by_cases z : s = p
      · subst z; rw [if_pos ⟨rfl, rfl⟩, if_pos rfl, yu s hs]
      · rw [if_neg (by omega), if_neg z, yu s hs]
    rw [x1, x2]
    simp only [hu_if, Nat.reduceEqDiff, false_and, true_and, if_false, w10, w14, w11]
    by_cases z : s = p
    · subst z
      simp only [if_true]
      rw [i_sub (by omega) (by omega), i_add (by omega) (by omega)]
      omega
    · simp only [z, if_false]
      exact ⟨⟨a2, a3⟩, a5, a6⟩
  · unfold pB gX gM
    rw [hu_j (by decide), hu_j (by decide), hu_k (by omega), hu_at, y4]
    simp only [hu_if, Nat.reduceEqDiff, false_and, true_and, and_self, if_false, if_true, w18]
    rw [i_add (by omega) (by omega)]
    omega
  · unfold pV gX gM
    rw [hu_j (by decide), hu_j (by decide), hu_k (by omega), hu_j (by decide), hu_k (by omega), hu_k (by omega)]
    simp only [hu_if, Nat.reduceEqDiff, false_and, if_false]
    exact VV
  · rintro ⟨e1, ⟨e2, e2'⟩, e3, e4, e5, e6, e7⟩
    have gW : (Wt - G).toInt = Wt.toInt - G.toInt := i_sub (by omega) (by omega)
    unfold Ext gX gM
    refine ⟨?_, ?_, ?_, ?_, fun q hq => ?_, ?_, ?_⟩
    · rw [hu_j (by decide), hu_at, y10, e1]
      simp only [hu_if, Nat.reduceEqDiff, false_and, true_and, and_self, if_false, if_true, w25]
    · rw [hu_at]
      simp only [hu_if, Nat.reduceEqDiff, false_and, true_and, and_self, if_false, if_true]
      refine ⟨?_, ?_⟩
      · unfold bi
        by_cases z : G < Wt
        · rw [if_pos z, if_pos]
          rw [Int32.lt_iff_toInt_lt] at z ⊢
          rw [gW, show (0 : Int32).toInt = 0 from by decide]
          omega
        · rw [if_neg z, if_neg]
          rw [Int32.lt_iff_toInt_lt] at z ⊢
          rw [gW, show (0 : Int32).toInt = 0 from by decide]
          omega
      · rw [Int32.le_iff_toInt_le, gW, show (0 : Int32).toInt = 0 from by decide]
        omega
    · rw [hu_j (by decide), hu_j (by decide), hu_k (by omega), hu_j (by decide), hu_k (by omega), hu_k (by omega), VX _ _ (by omega) (by omega)]
      simp only [hu_if, Nat.reduceEqDiff, false_and, if_false]
      rw [VM _ _ (by omega)]
      exact e3
    · rw [hu_j (by decide), hu_j (by decide), hu_k (by omega), hu_j (by decide), hu_k (by omega), hu_k (by omega), VX _ _ (by omega) (by omega)]
      simp only [hu_if, Nat.reduceEqDiff, false_and, if_false]
      rw [VM _ _ (by omega)]
      exact e4
    · have c2 : cI c 2 ≠ cI c 0 ∧ 1001 ≤ cI c 2 := by unfold cI; omega
      rw [hu_k c2.1, hu_k c2.1, hu_k (by omega), hu_k c2.1, hu_k (by omega), hu_k (by omega), VX _ _ (by omega) (by omega)]
      simp only [hu_if, Nat.reduceEqDiff, false_and, if_false]
      rw [VM _ _ (by omega)]
      exact e5 q hq
    · rw [hu_k (by omega), hu_k (by omega), hu_at, y2, e6]
      simp only [hu_if, Nat.reduceEqDiff, false_and, true_and, and_self, if_false, if_true, w05]
    · rw [hu_k (by omega), hu_k (by omega), hu_j (by decide), hu_k (by omega), hu_k (by omega), hu_k (by omega), VX _ _ (by omega) (by omega)]
      simp only [hu_if, Nat.reduceEqDiff, false_and, and_false, if_false]
      rw [VM _ _ (by omega)]
      exact e7
end OB2
