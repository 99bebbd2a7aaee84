/-! ===== the relation between the class and the reference ===== -/
/-- a cell of the class, its cell of the reference, and the bounds of both -/
def tr (k j : Nat) : Option (Nat × Nat × Int × Int) :=
  if 1400 ≤ k ∨ 80 ≤ j then none
  else if k = 0 then (if j = 11 then some (600, 1, 2, 8) else if j = 12 then some (600, 2, 0, 10) else if j = 13 then some (600, 3, 0, 10) else if j = 14 then some (600, 0, 0, 102400) else if j = 15 then some (600, 7, -2147483648, 2147483647) else if j = 16 then some (600, 8, -2147483648, 2147483647) else none)
  else if k = 4 then (if j = 1 then some (600, 4, 0, 80) else none)
  else if k = 5 then some (647, j, 0, 255)
  else if k = 6 then (if j = 1 then some (600, 51, 0, 1) else none)
  else if k = 8 then (if j = 2 then some (600, 5, -2147483648, 2147483647) else if j = 3 then some (600, 6, -2147483648, 2147483647) else none)
  else if k = 9 then (if j < 8 then some (610, j, 0, 100000) else none)
  else if k = 14 then (if j < 10 then some (616, j, 0, 999) else none)
  else if k = 16 then (if j < 9 then some (650, j, -2147483648, 2147483647) else none)
  else if k < 1000 then none
  else if (k - 1000) % 3 = 0 then (if (k - 1000) / 30 < 8 then (if (k - 1000) / 3 % 10 = 0 then (if j = 4 then some (611, (k - 1000) / 30, 0, 100) else if j = 5 then some (612, (k - 1000) / 30, 0, 99) else if j = 6 then some (613, (k - 1000) / 30, 0, 48) else none)
    else if (k - 1000) / 3 % 10 = 1 then (if j < 48 then some (615, 48 * ((k - 1000) / 30) + j, -9999, 500) else none) else none) else none)
  else if (k - 1000) % 3 = 1 then (if (k - 1000) / 30 < 10 then (
    if (k - 1000) / 3 % 10 = 0 then (if j = 4 then some (618, (k - 1000) / 30, 0, 100) else if j = 5 then some (619, (k - 1000) / 30, 0, 1) else if j = 6 then some (620, (k - 1000) / 30, 0, 7) else if j = 8 then some (622, (k - 1000) / 30, 0, 12) else if j = 9 then some (624, (k - 1000) / 30, 0, 48) else if j = 10 then some (625, (k - 1000) / 30, -2147483648, 2147483647) else if j = 12 then some (627, (k - 1000) / 30, 0, 1) else if j = 13 then some (628, (k - 1000) / 30, 0, 1) else none)
    else if (k - 1000) / 3 % 10 = 2 then (if j < 3 then some (629, 3 * ((k - 1000) / 30) + j, -2147483648, 2147483647) else none)
    else if 3 ≤ (k - 1000) / 3 % 10 ∧ (k - 1000) / 3 % 10 < 7 then (if j = 0 then some (630, 4 * ((k - 1000) / 30) + ((k - 1000) / 3 % 10 - 3), -4440, 500) else none) else none) else none)
  else none
/-- back from a cell of the reference -/
def ti (k j : Nat) : Nat × Nat :=
  if k = 600 then (if j = 1 then (0, 11) else if j = 2 then (0, 12) else if j = 3 then (0, 13) else if j = 0 then (0, 14) else if j = 7 then (0, 15) else if j = 8 then (0, 16) else if j = 4 then (4, 1) else if j = 51 then (6, 1) else if j = 5 then (8, 2) else (8, 3))
  else if k = 647 then (5, j) else if k = 610 then (9, j) else if k = 616 then (14, j) else if k = 650 then (16, j)
  else if k = 611 then (1000 + 30 * j, 4) else if k = 612 then (1000 + 30 * j, 5) else if k = 613 then (1000 + 30 * j, 6) else if k = 615 then (1003 + 30 * (j / 48), j % 48)
  else if k = 618 then (1001 + 30 * j, 4) else if k = 619 then (1001 + 30 * j, 5) else if k = 620 then (1001 + 30 * j, 6) else if k = 622 then (1001 + 30 * j, 8) else if k = 624 then (1001 + 30 * j, 9) else if k = 625 then (1001 + 30 * j, 10) else if k = 627 then (1001 + 30 * j, 12) else if k = 628 then (1001 + 30 * j, 13)
  else if k = 629 then (1007 + 30 * (j / 3), j % 3) else (1010 + 30 * (j / 4) + 3 * (j % 4), 0)
theorem if_some {α : Type} {c : Prop} [Decidable c] {a b : Option α} {q : α} (h : (if c then a else b) = some q) : (c ∧ a = some q) ∨ (¬ c ∧ b = some q) := by
  by_cases hc : c
  · rw [if_pos hc] at h; exact Or.inl ⟨hc, h⟩
  · rw [if_neg hc] at h; exact Or.inr ⟨hc, h⟩
set_option maxHeartbeats 4000000 in
theorem tr_ok {k j : Nat} {q : Nat × Nat × Int × Int} (h : tr k j = some q) : ti q.1 q.2.1 = (k, j) ∧ (600 ≤ q.1 ∧ q.1 < 700) ∧ (k < 600 ∨ 700 ≤ k) := by
  unfold tr at h
  rcases if_some h with ⟨_, h⟩ | ⟨_, h⟩
  · cases h
  · rcases if_some h with ⟨_, h⟩ | ⟨_, h⟩
    · rcases if_some h with ⟨_, h⟩ | ⟨_, h⟩
      · cases h
        (refine ⟨?_, ⟨by dsimp only; omega, by dsimp only; omega⟩, by omega⟩; simp only [ti, Nat.reduceEqDiff, if_true, if_false, Prod.mk.injEq, and_true, true_and] <;> omega)
      · rcases if_some h with ⟨_, h⟩ | ⟨_, h⟩
        · cases h
          (refine ⟨?_, ⟨by dsimp only; omega, by dsimp only; omega⟩, by omega⟩; simp only [ti, Nat.reduceEqDiff, if_true, if_false, Prod.mk.injEq, and_true, true_and] <;> omega)
        · rcases if_some h with ⟨_, h⟩ | ⟨_, h⟩
          · cases h
            (refine ⟨?_, ⟨by dsimp only; omega, by dsimp only; omega⟩, by omega⟩; simp only [ti, Nat.reduceEqDiff, if_true, if_false, Prod.mk.injEq, and_true, true_and] <;> omega)
          · rcases if_some h with ⟨_, h⟩ | ⟨_, h⟩
            · cases h
              (refine ⟨?_, ⟨by dsimp only; omega, by dsimp only; omega⟩, by omega⟩; simp only [ti, Nat.reduceEqDiff, if_true, if_false, Prod.mk.injEq, and_true, true_and] <;> omega)
            · rcases if_some h with ⟨_, h⟩ | ⟨_, h⟩
              · cases h
                (refine ⟨?_, ⟨by dsimp only; omega, by dsimp only; omega⟩, by omega⟩; simp only [ti, Nat.reduceEqDiff, if_true, if_false, Prod.mk.injEq, and_true, true_and] <;> omega)
              · rcases if_some h with ⟨_, h⟩ | ⟨_, h⟩
                · cases h
                  (refine ⟨?_, ⟨by dsimp only; omega, by dsimp only; omega⟩, by omega⟩; simp only [ti, Nat.reduceEqDiff, if_true, if_false, Prod.mk.injEq, and_true, true_and] <;> omega)
                · cases h
    · rcases if_some h with ⟨_, h⟩ | ⟨_, h⟩
      · rcases if_some h with ⟨_, h⟩ | ⟨_, h⟩
        · cases h
          (refine ⟨?_, ⟨by dsimp only; omega, by dsimp only; omega⟩, by omega⟩; simp only [ti, Nat.reduceEqDiff, if_true, if_false, Prod.mk.injEq, and_true, true_and] <;> omega)
        · cases h
      · rcases if_some h with ⟨_, h⟩ | ⟨_, h⟩
        · cases h
          (refine ⟨?_, ⟨by dsimp only; omega, by dsimp only; omega⟩, by omega⟩; simp only [ti, Nat.reduceEqDiff, if_true, if_false, Prod.mk.injEq, and_true, true_and] <;> omega)
        · rcases if_some h with ⟨_, h⟩ | ⟨_, h⟩
          · rcases if_some h with ⟨_, h⟩ | ⟨_, h⟩
            · cases h
              (refine ⟨?_, ⟨by dsimp only; omega, by dsimp only; omega⟩, by omega⟩; simp only [ti, Nat.reduceEqDiff, if_true, if_false, Prod.mk.injEq, and_true, true_and] <;> omega)
            · cases h
          · rcases if_some h with ⟨_, h⟩ | ⟨_, h⟩
            · rcases if_some h with ⟨_, h⟩ | ⟨_, h⟩
              · cases h
                (refine ⟨?_, ⟨by dsimp only; omega, by dsimp only; omega⟩, by omega⟩; simp only [ti, Nat.reduceEqDiff, if_true, if_false, Prod.mk.injEq, and_true, true_and] <;> omega)
              · rcases if_some h with ⟨_, h⟩ | ⟨_, h⟩
                · cases h
                  (refine ⟨?_, ⟨by dsimp only; omega, by dsimp only; omega⟩, by omega⟩; simp only [ti, Nat.reduceEqDiff, if_true, if_false, Prod.mk.injEq, and_true, true_and] <;> omega)
                · cases h
            · rcases if_some h with ⟨_, h⟩ | ⟨_, h⟩
              · rcases if_some h with ⟨_, h⟩ | ⟨_, h⟩
                · cases h
                  (refine ⟨?_, ⟨by dsimp only; omega, by dsimp only; omega⟩, by omega⟩; simp only [ti, Nat.reduceEqDiff, if_true, if_false, Prod.mk.injEq, and_true, true_and] <;> omega)
                · cases h
              · rcases if_some h with ⟨_, h⟩ | ⟨_, h⟩
                · rcases if_some h with ⟨_, h⟩ | ⟨_, h⟩
                  · cases h
                    (refine ⟨?_, ⟨by dsimp only; omega, by dsimp only; omega⟩, by omega⟩; simp only [ti, Nat.reduceEqDiff, if_true, if_false, Prod.mk.injEq, and_true, true_and] <;> omega)
                  · cases h
                · rcases if_some h with ⟨_, h⟩ | ⟨_, h⟩
                  · rcases if_some h with ⟨_, h⟩ | ⟨_, h⟩
                    · cases h
                      (refine ⟨?_, ⟨by dsimp only; omega, by dsimp only; omega⟩, by omega⟩; simp only [ti, Nat.reduceEqDiff, if_true, if_false, Prod.mk.injEq, and_true, true_and] <;> omega)
                    · cases h
                  · rcases if_some h with ⟨_, h⟩ | ⟨_, h⟩
                    · cases h
                    · rcases if_some h with ⟨_, h⟩ | ⟨_, h⟩
                      · rcases if_some h with ⟨_, h⟩ | ⟨_, h⟩
                        · rcases if_some h with ⟨_, h⟩ | ⟨_, h⟩
                          · rcases if_some h with ⟨_, h⟩ | ⟨_, h⟩
                            · cases h
                              (refine ⟨?_, ⟨by dsimp only; omega, by dsimp only; omega⟩, by omega⟩; simp only [ti, Nat.reduceEqDiff, if_true, if_false, Prod.mk.injEq, and_true, true_and] <;> omega)
                            · rcases if_some h with ⟨_, h⟩ | ⟨_, h⟩
                              · cases h
                                (refine ⟨?_, ⟨by dsimp only; omega, by dsimp only; omega⟩, by omega⟩; simp only [ti, Nat.reduceEqDiff, if_true, if_false, Prod.mk.injEq, and_true, true_and] <;> omega)
                              · rcases if_some h with ⟨_, h⟩ | ⟨_, h⟩
                                · cases h
                                  (refine ⟨?_, ⟨by dsimp only; omega, by dsimp only; omega⟩, by omega⟩; simp only [ti, Nat.reduceEqDiff, if_true, if_false, Prod.mk.injEq, and_true, true_and] <;> omega)
                                · cases h
                          · rcases if_some h with ⟨_, h⟩ | ⟨_, h⟩
                            · rcases if_some h with ⟨_, h⟩ | ⟨_, h⟩
                              · cases h
                                (refine ⟨?_, ⟨by dsimp only; omega, by dsimp only; omega⟩, by omega⟩; simp only [ti, Nat.reduceEqDiff, if_true, if_false, Prod.mk.injEq, and_true, true_and] <;> omega)
                              · cases h
                            · cases h
                        · cases h
                      · rcases if_some h with ⟨_, h⟩ | ⟨_, h⟩
                        · rcases if_some h with ⟨_, h⟩ | ⟨_, h⟩
                          · rcases if_some h with ⟨_, h⟩ | ⟨_, h⟩
                            · rcases if_some h with ⟨_, h⟩ | ⟨_, h⟩
                              · cases h
                                (refine ⟨?_, ⟨by dsimp only; omega, by dsimp only; omega⟩, by omega⟩; simp only [ti, Nat.reduceEqDiff, if_true, if_false, Prod.mk.injEq, and_true, true_and] <;> omega)
                              · rcases if_some h with ⟨_, h⟩ | ⟨_, h⟩
                                · cases h
                                  (refine ⟨?_, ⟨by dsimp only; omega, by dsimp only; omega⟩, by omega⟩; simp only [ti, Nat.reduceEqDiff, if_true, if_false, Prod.mk.injEq, and_true, true_and] <;> omega)
                                · rcases if_some h with ⟨_, h⟩ | ⟨_, h⟩
                                  · cases h
                                    (refine ⟨?_, ⟨by dsimp only; omega, by dsimp only; omega⟩, by omega⟩; simp only [ti, Nat.reduceEqDiff, if_true, if_false, Prod.mk.injEq, and_true, true_and] <;> omega)
                                  · rcases if_some h with ⟨_, h⟩ | ⟨_, h⟩
                                    · cases h
                                      (refine ⟨?_, ⟨by dsimp only; omega, by dsimp only; omega⟩, by omega⟩; simp only [ti, Nat.reduceEqDiff, if_true, if_false, Prod.mk.injEq, and_true, true_and] <;> omega)
                                    · rcases if_some h with ⟨_, h⟩ | ⟨_, h⟩
                                      · cases h
                                        (refine ⟨?_, ⟨by dsimp only; omega, by dsimp only; omega⟩, by omega⟩; simp only [ti, Nat.reduceEqDiff, if_true, if_false, Prod.mk.injEq, and_true, true_and] <;> omega)
                                      · rcases if_some h with ⟨_, h⟩ | ⟨_, h⟩
                                        · cases h
                                          (refine ⟨?_, ⟨by dsimp only; omega, by dsimp only; omega⟩, by omega⟩; simp only [ti, Nat.reduceEqDiff, if_true, if_false, Prod.mk.injEq, and_true, true_and] <;> omega)
                                        · rcases if_some h with ⟨_, h⟩ | ⟨_, h⟩
                                          · cases h
                                            (refine ⟨?_, ⟨by dsimp only; omega, by dsimp only; omega⟩, by omega⟩; simp only [ti, Nat.reduceEqDiff, if_true, if_false, Prod.mk.injEq, and_true, true_and] <;> omega)
                                          · rcases if_some h with ⟨_, h⟩ | ⟨_, h⟩
                                            · cases h
                                              (refine ⟨?_, ⟨by dsimp only; omega, by dsimp only; omega⟩, by omega⟩; simp only [ti, Nat.reduceEqDiff, if_true, if_false, Prod.mk.injEq, and_true, true_and] <;> omega)
                                            · cases h
                            · rcases if_some h with ⟨_, h⟩ | ⟨_, h⟩
                              · rcases if_some h with ⟨_, h⟩ | ⟨_, h⟩
                                · cases h
                                  (refine ⟨?_, ⟨by dsimp only; omega, by dsimp only; omega⟩, by omega⟩; simp only [ti, Nat.reduceEqDiff, if_true, if_false, Prod.mk.injEq, and_true, true_and] <;> omega)
                                · cases h
                              · rcases if_some h with ⟨_, h⟩ | ⟨_, h⟩
                                · rcases if_some h with ⟨_, h⟩ | ⟨_, h⟩
                                  · cases h
                                    (refine ⟨?_, ⟨by dsimp only; omega, by dsimp only; omega⟩, by omega⟩; simp only [ti, Nat.reduceEqDiff, if_true, if_false, Prod.mk.injEq, and_true, true_and] <;> omega)
                                  · cases h
                                · cases h
                          · cases h
                        · cases h
set_option maxHeartbeats 4000000 in
theorem tr_where {k j : Nat} {q : Nat × Nat × Int × Int} (h : tr k j = some q) : ((q.1 = 600 ∧ (q.2.1 ≤ 8 ∨ q.2.1 = 51)) ∨ q.1 = 610 ∨ q.1 = 611 ∨ q.1 = 612 ∨ q.1 = 613 ∨ q.1 = 615 ∨ q.1 = 616 ∨ (q.1 = 618 ∧ q.2.1 < 10) ∨ (q.1 = 619 ∧ q.2.1 < 10) ∨ (q.1 = 620 ∧ q.2.1 < 10) ∨ (q.1 = 622 ∧ q.2.1 < 10) ∨ (q.1 = 624 ∧ q.2.1 < 10) ∨ (q.1 = 625 ∧ q.2.1 < 10) ∨ (q.1 = 627 ∧ q.2.1 < 10) ∨ (q.1 = 628 ∧ q.2.1 < 10) ∨ (q.1 = 629 ∧ q.2.1 < 30) ∨ (q.1 = 630 ∧ q.2.1 < 40) ∨ q.1 = 647 ∨ q.1 = 650)
    ∧ ((k = 0 ∧ 11 ≤ j) ∨ (k = 4 ∧ j = 1) ∨ k = 5 ∨ (k = 6 ∧ j = 1) ∨ (k = 8 ∧ 2 ≤ j ∧ j ≤ 3) ∨ k = 9 ∨ k = 14 ∨ k = 16 ∨ (1000 ≤ k ∧ (k - 1000) % 3 = 0 ∧ (k - 1000) / 3 % 10 ≤ 1 ∧ (k - 1000) / 30 < 8 ∧ ((k - 1000) / 3 % 10 = 0 → 4 ≤ j ∧ j ≤ 6)) ∨ (1000 ≤ k ∧ (k - 1000) % 3 = 1 ∧ (k - 1000) / 30 < 10 ∧ (((k - 1000) / 3 % 10 = 0 ∧ (j = 4 ∨ j = 5 ∨ j = 6 ∨ j = 8 ∨ j = 9 ∨ j = 10 ∨ j = 12 ∨ j = 13)) ∨ (k - 1000) / 3 % 10 = 2 ∨ (3 ≤ (k - 1000) / 3 % 10 ∧ (k - 1000) / 3 % 10 < 7 ∧ j = 0)))) := by
  unfold tr at h
  rcases if_some h with ⟨_, h⟩ | ⟨_, h⟩
  · cases h
  · rcases if_some h with ⟨_, h⟩ | ⟨_, h⟩
    · rcases if_some h with ⟨_, h⟩ | ⟨_, h⟩
      · cases h
        (refine ⟨?_, ?_⟩ <;> (try dsimp only) <;> omega)
      · rcases if_some h with ⟨_, h⟩ | ⟨_, h⟩
        · cases h
          (refine ⟨?_, ?_⟩ <;> (try dsimp only) <;> omega)
        · rcases if_some h with ⟨_, h⟩ | ⟨_, h⟩
          · cases h
            (refine ⟨?_, ?_⟩ <;> (try dsimp only) <;> omega)
          · rcases if_some h with ⟨_, h⟩ | ⟨_, h⟩
            · cases h
              (refine ⟨?_, ?_⟩ <;> (try dsimp only) <;> omega)
            · rcases if_some h with ⟨_, h⟩ | ⟨_, h⟩
              · cases h
                (refine ⟨?_, ?_⟩ <;> (try dsimp only) <;> omega)
              · rcases if_some h with ⟨_, h⟩ | ⟨_, h⟩
                · cases h
                  (refine ⟨?_, ?_⟩ <;> (try dsimp only) <;> omega)
                · cases h
    · rcases if_some h with ⟨_, h⟩ | ⟨_, h⟩
      · rcases if_some h with ⟨_, h⟩ | ⟨_, h⟩
        · cases h
          (refine ⟨?_, ?_⟩ <;> (try dsimp only) <;> omega)
        · cases h
      · rcases if_some h with ⟨_, h⟩ | ⟨_, h⟩
        · cases h
          (refine ⟨?_, ?_⟩ <;> (try dsimp only) <;> omega)
        · rcases if_some h with ⟨_, h⟩ | ⟨_, h⟩
          · rcases if_some h with ⟨_, h⟩ | ⟨_, h⟩
            · cases h
              (refine ⟨?_, ?_⟩ <;> (try dsimp only) <;> omega)
            · cases h
          · rcases if_some h with ⟨_, h⟩ | ⟨_, h⟩
            · rcases if_some h with ⟨_, h⟩ | ⟨_, h⟩
              · cases h
                (refine ⟨?_, ?_⟩ <;> (try dsimp only) <;> omega)
              · rcases if_some h with ⟨_, h⟩ | ⟨_, h⟩
                · cases h
                  (refine ⟨?_, ?_⟩ <;> (try dsimp only) <;> omega)
                · cases h
            · rcases if_some h with ⟨_, h⟩ | ⟨_, h⟩
              · rcases if_some h with ⟨_, h⟩ | ⟨_, h⟩
                · cases h
                  (refine ⟨?_, ?_⟩ <;> (try dsimp only) <;> omega)
                · cases h
              · rcases if_some h with ⟨_, h⟩ | ⟨_, h⟩
                · rcases if_some h with ⟨_, h⟩ | ⟨_, h⟩
                  · cases h
                    (refine ⟨?_, ?_⟩ <;> (try dsimp only) <;> omega)
                  · cases h
                · rcases if_some h with ⟨_, h⟩ | ⟨_, h⟩
                  · rcases if_some h with ⟨_, h⟩ | ⟨_, h⟩
                    · cases h
                      (refine ⟨?_, ?_⟩ <;> (try dsimp only) <;> omega)
                    · cases h
                  · rcases if_some h with ⟨_, h⟩ | ⟨_, h⟩
                    · cases h
                    · rcases if_some h with ⟨_, h⟩ | ⟨_, h⟩
                      · rcases if_some h with ⟨_, h⟩ | ⟨_, h⟩
                        · rcases if_some h with ⟨_, h⟩ | ⟨_, h⟩
                          · rcases if_some h with ⟨_, h⟩ | ⟨_, h⟩
                            · cases h
                              (refine ⟨?_, ?_⟩ <;> (try dsimp only) <;> omega)
                            · rcases if_some h with ⟨_, h⟩ | ⟨_, h⟩
                              · cases h
                                (refine ⟨?_, ?_⟩ <;> (try dsimp only) <;> omega)
                              · rcases if_some h with ⟨_, h⟩ | ⟨_, h⟩
                                · cases h
                                  (refine ⟨?_, ?_⟩ <;> (try dsimp only) <;> omega)
                                · cases h
                          · rcases if_some h with ⟨_, h⟩ | ⟨_, h⟩
                            · rcases if_some h with ⟨_, h⟩ | ⟨_, h⟩
                              · cases h
                                (refine ⟨?_, ?_⟩ <;> (try dsimp only) <;> omega)
                              · cases h
                            · cases h
                        · cases h
                      · rcases if_some h with ⟨_, h⟩ | ⟨_, h⟩
                        · rcases if_some h with ⟨_, h⟩ | ⟨_, h⟩
                          · rcases if_some h with ⟨_, h⟩ | ⟨_, h⟩
                            · rcases if_some h with ⟨_, h⟩ | ⟨_, h⟩
                              · cases h
                                (refine ⟨?_, ?_⟩ <;> (try dsimp only) <;> omega)
                              · rcases if_some h with ⟨_, h⟩ | ⟨_, h⟩
                                · cases h
                                  (refine ⟨?_, ?_⟩ <;> (try dsimp only) <;> omega)
                                · rcases if_some h with ⟨_, h⟩ | ⟨_, h⟩
                                  · cases h
                                    (refine ⟨?_, ?_⟩ <;> (try dsimp only) <;> omega)
                                  · rcases if_some h with ⟨_, h⟩ | ⟨_, h⟩
                                    · cases h
                                      (refine ⟨?_, ?_⟩ <;> (try dsimp only) <;> omega)
                                    · rcases if_some h with ⟨_, h⟩ | ⟨_, h⟩
                                      · cases h
                                        (refine ⟨?_, ?_⟩ <;> (try dsimp only) <;> omega)
                                      · rcases if_some h with ⟨_, h⟩ | ⟨_, h⟩
                                        · cases h
                                          (refine ⟨?_, ?_⟩ <;> (try dsimp only) <;> omega)
                                        · rcases if_some h with ⟨_, h⟩ | ⟨_, h⟩
                                          · cases h
                                            (refine ⟨?_, ?_⟩ <;> (try dsimp only) <;> omega)
                                          · rcases if_some h with ⟨_, h⟩ | ⟨_, h⟩
                                            · cases h
                                              (refine ⟨?_, ?_⟩ <;> (try dsimp only) <;> omega)
                                            · cases h
                            · rcases if_some h with ⟨_, h⟩ | ⟨_, h⟩
                              · rcases if_some h with ⟨_, h⟩ | ⟨_, h⟩
                                · cases h
                                  (refine ⟨?_, ?_⟩ <;> (try dsimp only) <;> omega)
                                · cases h
                              · rcases if_some h with ⟨_, h⟩ | ⟨_, h⟩
                                · rcases if_some h with ⟨_, h⟩ | ⟨_, h⟩
                                  · cases h
                                    (refine ⟨?_, ?_⟩ <;> (try dsimp only) <;> omega)
                                  · cases h
                                · cases h
                          · cases h
                        · cases h
def I1 (h : Hp) : Prop := ∀ k j q, tr k j = some q → h k j = h q.1 q.2.1 ∧ q.2.2.1 ≤ (h k j).toInt ∧ (h k j).toInt ≤ q.2.2.2
theorem I1_upd {h : Hp} {k j : Nat} {q : Nat × Nat × Int × Int} {v : Int32} (I : I1 h) (hq : tr k j = some q) (h1 : q.2.2.1 ≤ v.toInt) (h2 : v.toInt ≤ q.2.2.2) : I1 (hu (hu h k j v) q.1 q.2.1 v) := by
  obtain ⟨e1, e2, e3⟩ := tr_ok hq
  intro a b p hp
  obtain ⟨f1, f2, f3⟩ := tr_ok hp
  have hA : ¬ (a = q.1 ∧ b = q.2.1) := by omega
  have hB : ¬ (p.1 = k ∧ p.2.1 = j) := by omega
  by_cases hab : a = k ∧ b = j
  · obtain ⟨rfl, rfl⟩ := hab
    rw [hq] at hp
    cases hp
    rw [hu_if, if_neg hA, hu_if, if_pos ⟨rfl, rfl⟩, hu_if, if_pos ⟨rfl, rfl⟩]
    exact ⟨rfl, h1, h2⟩
  · have hC : ¬ (p.1 = q.1 ∧ p.2.1 = q.2.1) := fun z => hab (by
      rw [z.1, z.2] at f1
      rw [e1] at f1
      cases f1
      exact ⟨rfl, rfl⟩)
    rw [hu_if, if_neg hA, hu_if, if_neg hab, hu_if, if_neg hC, hu_if, if_neg hB]
    exact I a b p hp
/-- writes of cells that the table doesn't name -/
theorem I1_off {h h' : Hp} (I : I1 h) (hx : ∀ k j q, tr k j = some q → h' k j = h k j ∧ h' q.1 q.2.1 = h q.1 q.2.1) : I1 h' := by
  intro k j q hq
  obtain ⟨e1, e2⟩ := hx k j q hq
  rw [e1, e2]
  exact I k j q hq
/-- the weather of hour t of a row, gaps filled -/
def wfill (f : Nat → Int32) (t : Nat) : Int32 := match (List.range 48).find? (fun k => decide (f ((t + 48 - k) % 48) ≠ -9999)) with
  | some k => f ((t + 48 - k) % 48)
  | none => 150
def I2 (i ns nc nr hr tl sn : Nat) (h : Hp) : Prop := (h 600 1 = nI ns ∧ 2 ≤ ns ∧ ns ≤ 8) ∧ (h 600 2 = nI nc ∧ nc ≤ 10) ∧ (h 600 3 = nI nr ∧ nr ≤ 10) ∧ (h 600 0 = nI hr ∧ hr ≤ 200 * i ∧ i ≤ 512) ∧ (h 600 4 = nI tl ∧ tl ≤ 80) ∧ h 600 38 = nI sn
def I3 (ns : Nat) (h : Hp) : Prop := (∀ s, s + 1 < ns → h (sI s 0) 7 = h 609 s ∧ 1 ≤ (h 609 s).toInt ∧ (h 609 s).toInt ≤ 12) ∧ ∀ s, s < 8 → ns ≤ s + 1 → h (sI s 0) 7 = -1
def I4 (h : Hp) : Prop := ∀ s, s < 8 → ∀ t, t < 48 → (h (sI s 1) t = -9999 ∨ (-400 ≤ (h (sI s 1) t).toInt ∧ (h (sI s 1) t).toInt ≤ 500)) ∧ h (sI s 2) t = wfill (h (sI s 1)) t
/-- how many of the first n sales were at s in hour x -/
def cnt (a b : Nat → Int32) (s x : Nat) : Nat → Nat
  | 0 => 0
  | n + 1 => cnt a b s x n + (if a n = nI s ∧ b n = nI x then 1 else 0)
def I5 (hr sn : Nat) (h : Hp) : Prop := (∀ i, i < sn → ∃ s x, s < 8 ∧ x ≤ hr ∧ h 636 i = nI s ∧ h 637 i = nI x ∧ (hr < x + 24 → h (sI s 3) (x % 24) = nI x)) ∧ ∀ s, s < 8 → ∀ q, q < 24 → ∃ x, x ≤ hr ∧ h (sI s 3) q = nI x ∧ h (sI s 4) q = nI (if x % 24 = q then cnt (h 636) (h 637) s x sn else 0)
def I6 (h : Hp) : Prop := (h 600 51 = 1 ∧ ∀ i, i < 48 → h 7 i = h 648 i) ∨ (h 600 51 = 0 ∧ ∀ i, i < 48 → h 648 i = 0)
def ruleOK (h : Hp) (r : Nat) : Prop := (h (rI r 0) 3 = h 639 r ∧ (h 639 r = 0 ∨ h 639 r = 1)) ∧ (h (rI r 0) 4 = h 640 r ∧ 0 ≤ (h 640 r).toInt ∧ (h 640 r).toInt ≤ 999) ∧ h (rI r 0) 6 = h 641 r ∧ h (rI r 0) 7 = h 642 r ∧ ∃ n, n ≤ 3 ∧ h (rI r 0) 5 = nI n ∧ h 643 r = nI n ∧ ∀ t, t < n → (∃ f, f ≤ 4 ∧ h (rI r 1) t = nI f ∧ h 644 (3 * r + t) = nI f) ∧ (h (rI r 2) t = 61 + h 645 (3 * r + t) ∧ (h 645 (3 * r + t) = -1 ∨ h 645 (3 * r + t) = 0 ∨ h 645 (3 * r + t) = 1)) ∧ h (rI r 3) t = h 646 (3 * r + t)
def I7 (nr : Nat) (h : Hp) : Prop := ∀ r, r < nr → ruleOK h r
/-- a tier of a car; lived hours at most m -/
def tierOK (m c t : Nat) (h : Hp) : Prop := h (cI c (3 + t)) 1 = h 631 (4 * c + t) ∧ (∃ l, l ≤ m ∧ h 635 (4 * c + t) = nI l ∧ ((h 631 (4 * c + t) = -1 ∧ h (cI c (3 + t)) 2 = 0 ∧ h (cI c (3 + t)) 3 = 0) ∨ ∃ kn, kn ≤ 4 ∧ h 631 (4 * c + t) = nI kn ∧ (h (cI c (3 + t)) 2 = h 632 (4 * c + t) ∧ 1 ≤ (h 632 (4 * c + t)).toInt ∧ (h 632 (4 * c + t)).toInt ≤ 500) ∧ (h (cI c (3 + t)) 3 = h 633 (4 * c + t) ∧ 0 ≤ (h 633 (4 * c + t)).toInt ∧ (h 633 (4 * c + t)).toInt ≤ 10000)
  ∧ (kn = 2 → h (cI c (3 + t)) 4 = h 634 (4 * c + t) ∧ 0 ≤ (h 634 (4 * c + t)).toInt ∧ (h 634 (4 * c + t)).toInt ≤ 99) ∧ (kn ≠ 2 → h (cI c (3 + t)) 4 = -1) ∧ (kn = 4 → h (cI c (3 + t)) 5 = if l % 2 = 1 then 1 else 0)))
/-- a car beyond the table's cells: its number, leak, end, the leg's other end; p is where it is -/
def carOK (ns m n c : Nat) (h : Hp) : Prop := h (cI c 0) 2 = nI n ∧ (h (cI c 0) 3 = h 617 c ∧ 1 ≤ (h 617 c).toInt ∧ (h 617 c).toInt ≤ 40) ∧ h (cI c 0) 7 = h 623 c ∧ (h (cI c 0) 11 = (if 0 < h 626 c then 1 else 0) ∧ 0 ≤ h 626 c) ∧
  (∃ p, p < ns ∧ h 620 c = nI p ∧ ((h 623 c = -1 ∧ h 622 c = 0 ∧ h 624 c = 0) ∨ ∃ e, e < ns ∧ e ≠ p ∧ h 623 c = nI e ∧ (h 622 c = 0 ∨ (h 624 c = 0 ∧ h 621 c = nI (if p < e then p + 1 else p - 1))))) ∧ ∀ t, t < 4 → tierOK m c t h
def I8 (ns nc hr : Nat) (h : Hp) : Prop := ∀ c, c < nc → carOK ns hr c c h
def I9 (nc : Nat) (h : Hp) : Prop := ∀ c, nc ≤ c → c < 10 → (h (cI c 0) 2 = nI c ∧ h (cI c 0) 7 = -1 ∧ h (cI c 0) 11 = 0 ∧ h 626 c = 0 ∧ h 622 c = 0 ∧ h 624 c = 0 ∧ h 627 c = 0) ∧ ∀ t, t < 4 → h (cI c (3 + t)) 1 = -1 ∧ h (cI c (3 + t)) 2 = 0 ∧ h (cI c (3 + t)) 3 = 0 ∧ h 635 (4 * c + t) = 0
/-- cars that go or have come -/
def ac (e f : Int32) : Nat := (if e = -1 then 0 else 1) + (if f = 1 then 1 else 0)
def act (e f : Nat → Int32) : Nat → Nat
  | 0 => 0
  | n + 1 => act e f n + ac (e n) (f n)
def I10 (i nc sn : Nat) (h : Hp) : Prop := 2 * sn + act (h 623) (h 627) nc ≤ i
def J (i ns nc nr hr tl sn : Nat) (h : Hp) : Prop := I2 i ns nc nr hr tl sn h ∧ I3 ns h ∧ I4 h ∧ I5 hr sn h ∧ I6 h ∧ I7 nr h ∧ I8 ns nc hr h ∧ I9 nc h ∧ I10 i nc sn h
def Inv (i : Nat) (h : Hp) : Prop := I1 h ∧ ∃ ns nc nr hr tl sn, J i ns nc nr hr tl sn h
/-- the cells that J reads -/
def DJm (a b : Nat) : Prop := (a = 600 ∧ (b = 0 ∨ b = 1 ∨ b = 2 ∨ b = 3 ∨ b = 4 ∨ b = 38 ∨ b = 51)) ∨ a = 7 ∨ a = 609 ∨ a = 617 ∨ a = 620 ∨ a = 621 ∨ a = 622 ∨ a = 623 ∨ a = 624 ∨ a = 626 ∨ a = 627 ∨ a = 631 ∨ a = 632 ∨ a = 633 ∨ a = 634 ∨ a = 635 ∨ a = 636 ∨ a = 637 ∨ a = 639 ∨ a = 640 ∨ a = 641 ∨ a = 642 ∨ a = 643 ∨ a = 644 ∨ a = 645 ∨ a = 646 ∨ a = 648
def DJ (a b : Nat) : Prop := DJm a b ∨ (∃ s, (a = sI s 0 ∧ b = 7) ∨ a = sI s 1 ∨ a = sI s 2 ∨ a = sI s 3 ∨ a = sI s 4) ∨ (∃ r j, a = rI r j) ∨ (∃ c, a = cI c 0 ∧ (b = 2 ∨ b = 3 ∨ b = 7 ∨ b = 11)) ∨ ∃ c t, t < 4 ∧ a = cI c (3 + t) ∧ (b = 1 ∨ b = 2 ∨ b = 3 ∨ b = 4 ∨ b = 5)
