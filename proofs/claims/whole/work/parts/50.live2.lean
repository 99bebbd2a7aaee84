/-! ===== an hour: a tier lives, both sides ===== -/
theorem mn_eq {L v : Int32} : (if L < v then L else v) = (if v < L then v else L) := by
  by_cases z : L < v
  · have y : ¬ v < L := fun w => Int32.lt_irrefl (Int32.lt_trans w z)
    rw [if_pos z, if_neg y]
  · rw [if_neg z]
    by_cases y : v < L
    · rw [if_pos y]
    · rw [if_neg y]
      exact Int32.le_antisymm (Int32.not_lt.mp z) (Int32.not_lt.mp y)
theorem sub_rng {L v : Int32} (hL : 0 ≤ L.toInt) (h0 : 0 ≤ v.toInt) (h1 : v.toInt ≤ 10000) : 0 ≤ (v - (if v < L then v else L)).toInt ∧ (v - (if v < L then v else L)).toInt ≤ 10000 := by
  by_cases y : v < L
  · rw [if_pos y, i_sub (by omega) (by omega)]
    omega
  · rw [if_neg y]
    rw [Int32.lt_iff_toInt_lt] at y
    rw [i_sub (by omega) (by omega)]
    omega
set_option maxHeartbeats 1000000 in
theorem live_mk {c t hr l kn : Nat} {x m xh mh : Hp} {L : Int32} (hc : c < 11) (ht : t < 4) (hL : 0 ≤ L.toInt)
    (e : ex 38 0 [.ref (cI c (3 + t)), .ref 14] [] x = some (some (.int L), xh))
    (em : ex 130 0 [.ref 600, .int (nI (4 * c + t)), .null, .null] [] m = some (some (.int (if m 633 (4 * c + t) < L then m 633 (4 * c + t) else L)), hu mh 633 (4 * c + t) (m 633 (4 * c + t) - (if m 633 (4 * c + t) < L then m 633 (4 * c + t) else L))))
    (xo : ∀ a b, ¬ (a = cI c (3 + t) ∧ 4 ≤ b ∧ b ≤ 5) → xh a b = x a b) (mo : ∀ a b, ¬ ((a = 634 ∨ a = 635) ∧ b = 4 * c + t) → mh a b = m a b)
    (k1 : x (cI c (3 + t)) 1 = nI kn) (k2 : m 631 (4 * c + t) = nI kn) (k4 : kn ≤ 4) (lf : x (cI c (3 + t)) 3 = m 633 (4 * c + t) ∧ 0 ≤ (m 633 (4 * c + t)).toInt ∧ (m 633 (4 * c + t)).toInt ≤ 10000)
    (bk : x (cI c (3 + t)) 2 = m 632 (4 * c + t) ∧ 1 ≤ (m 632 (4 * c + t)).toInt ∧ (m 632 (4 * c + t)).toInt ≤ 500) (lv : l ≤ hr) (l5 : mh 635 (4 * c + t) = nI l)
    (r1 : kn = 2 → xh (cI c (3 + t)) 4 = mh 634 (4 * c + t) ∧ 0 ≤ (mh 634 (4 * c + t)).toInt ∧ (mh 634 (4 * c + t)).toInt ≤ 99) (r2 : kn ≠ 2 → xh (cI c (3 + t)) 4 = -1) (r3 : kn = 4 → xh (cI c (3 + t)) 5 = if l % 2 = 1 then 1 else 0) :
    ∃ r x' m', ex 37 0 [.ref (cI c (3 + t)), .ref 14, .null] [] x = some (some (.int (r * m 632 (4 * c + t))), x') ∧ ex 130 0 [.ref 600, .int (nI (4 * c + t)), .null, .null] [] m = some (some (.int r), m') ∧ (∀ a b, ¬ (a = cI c (3 + t) ∧ 3 ≤ b ∧ b ≤ 5) → x' a b = x a b) ∧ (∀ a b, ¬ (633 ≤ a ∧ a ≤ 635 ∧ b = 4 * c + t) → m' a b = m a b) ∧ tierOK hr c t (mix x' m') := by
  have kk : ¬ x (cI c (3 + t)) 1 = -1 := by rw [k1, nI_m1 (by omega)]; exact fun z => z
  have X := T_live hc ht kk e (xo _ _ (by omega)) (xo _ _ (by omega))
  rw [mn_eq, lf.1, bk.1] at X
  have S := sub_rng hL lf.2.1 lf.2.2
  refine ⟨_, _, _, X, em, fun a b h => ?_, fun a b h => ?_, ?_⟩
  · rw [hu_if, if_neg (by omega)]
    exact xo a b (by omega)
  · rw [hu_if, if_neg (by omega)]
    exact mo a b (by omega)
  · unfold tierOK
    have M0 : ∀ (y z : Hp) a j, 600 ≤ a ∧ a < 700 → mix y z a j = z a j := fun y z a j h => by rw [mix_M h]
    simp only [mix_cI]
    rw [M0 _ _ 631 _ (by decide), M0 _ _ 632 _ (by decide), M0 _ _ 633 _ (by decide), M0 _ _ 634 _ (by decide), M0 _ _ 635 _ (by decide)]
    simp only [hu_if, Nat.reduceEqDiff, false_and, and_false, and_self, if_false, if_true]
    rw [xo _ 1 (by omega), xo _ 2 (by omega), mo 631 _ (by omega), mo 632 _ (by omega)]
    exact ⟨k1.trans k2.symm, l, lv, l5, Or.inr ⟨kn, k4, k2, bk, ⟨trivial, S⟩, r1, r2, r3⟩⟩
