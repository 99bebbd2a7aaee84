/-! ===== the two systems on heaps of their own ===== -/
theorem rf_some {c : Prop} [Decidable c] {a b : Option Nat} {q : Nat} (h : (if c then a else b) = some q) : (c ∧ a = some q) ∨ (¬ c ∧ b = some q) := by
  by_cases hc : c
  · rw [if_pos hc] at h; exact Or.inl ⟨hc, h⟩
  · rw [if_neg hc] at h; exact Or.inr ⟨hc, h⟩
theorem rf_0 : ∀ j q, [some 1, some 2, some 3, some 4, some 6, some 8, some 14, some 15, some 16, some 1301, some 11].getD j none = some q → q < 600 ∨ 700 ≤ q := by
  intro j q h
  match j, h with
  | 0, h => cases h; omega
  | 1, h => cases h; omega
  | 2, h => cases h; omega
  | 3, h => cases h; omega
  | 4, h => cases h; omega
  | 5, h => cases h; omega
  | 6, h => cases h; omega
  | 7, h => cases h; omega
  | 8, h => cases h; omega
  | 9, h => cases h; omega
  | 10, h => cases h; omega
  | n + 11, h => simp at h
theorem rf_600 {j q : Nat} (h : rf 600 j = some q) : 600 ≤ q ∧ q < 700 := by
  unfold rf at h
  simp only [Nat.reduceLT, if_true, Nat.reduceEqDiff, if_false, or_self] at h
  rcases rf_some h with ⟨hj, h⟩ | ⟨_, h⟩
  · cases h
    have : j < 55 := by
      rcases Nat.lt_or_ge j 55 with h | h
      · exact h
      · rw [List.getD_eq_getElem?_getD, List.getElem?_eq_none (by simpa using h)] at hj
        cases hj
    omega
  · cases h
theorem rf_apart {k j q : Nat} (h : rf k j = some q) : ((600 ≤ k ∧ k < 700) ∧ 600 ≤ q ∧ q < 700) ∨ ((k < 600 ∨ 700 ≤ k) ∧ (q < 600 ∨ 700 ≤ q)) := by
  by_cases h6 : k = 600
  · subst h6
    exact Or.inl ⟨by omega, rf_600 h⟩
  · right
    unfold rf at h
    rcases rf_some h with ⟨hk, h⟩ | ⟨hk, h⟩
    · rcases rf_some h with ⟨hk, h⟩ | ⟨_, h⟩
      · exact ⟨by omega, rf_0 j q h⟩
      rcases rf_some h with ⟨hk, h⟩ | ⟨_, h⟩
      · rcases rf_some h with ⟨_, h⟩ | ⟨_, h⟩ <;> cases h; omega
      rcases rf_some h with ⟨hk, h⟩ | ⟨_, h⟩
      · rcases rf_some h with ⟨_, h⟩ | ⟨_, h⟩ <;> cases h; omega
      rcases rf_some h with ⟨hk, h⟩ | ⟨_, h⟩
      · rcases rf_some h with ⟨_, h⟩ | ⟨_, h⟩ <;> cases h; omega
      rcases rf_some h with ⟨hk, h⟩ | ⟨_, h⟩
      · rcases rf_some h with ⟨_, h⟩ | ⟨_, h⟩ <;> cases h; omega
      rcases rf_some h with ⟨hk, h⟩ | ⟨_, h⟩
      · rcases rf_some h with ⟨_, h⟩ | ⟨_, h⟩ <;> cases h; omega
      rcases rf_some h with ⟨hk, h⟩ | ⟨_, h⟩
      · exact absurd hk h6
      · cases h
    · rcases rf_some h with ⟨_, h⟩ | ⟨_, h⟩
      · rcases rf_some h with ⟨_, h⟩ | ⟨_, h⟩ <;> cases h; omega
      rcases rf_some h with ⟨_, h⟩ | ⟨_, h⟩
      · rcases rf_some h with ⟨_, h⟩ | ⟨_, h⟩
        · rcases rf_some h with ⟨_, h⟩ | ⟨_, h⟩ <;> cases h; omega
        · rcases rf_some h with ⟨_, h⟩ | ⟨_, h⟩
          · rcases rf_some h with ⟨_, h⟩ | ⟨_, h⟩ <;> cases h; omega
          · cases h
      · rcases rf_some h with ⟨_, h⟩ | ⟨_, h⟩ <;> cases h; omega
theorem PX_t {k : Nat} : PX k = true ↔ (k < 600 ∨ 700 ≤ k) := by
  unfold PX
  simp only [Bool.not_eq_true', Bool.and_eq_false_iff, decide_eq_false_iff_not]
  omega
theorem PM_t {k : Nat} : PM k = true ↔ (600 ≤ k ∧ k < 700) := by
  unfold PM
  simp only [Bool.and_eq_true, decide_eq_true_eq]
theorem clo_X : Clo PX := fun k j q hk hr => by
  have := rf_apart hr
  rw [PX_t] at hk ⊢
  omega
theorem clo_M : Clo PM := fun k j q hk hr => by
  have := rf_apart hr
  rw [PM_t] at hk ⊢
  omega
/-- the heap whose class part is hx and whose reference part is hm -/
def mix (hx hm : Hp) : Hp := mx PX hx hm
theorem mix_M {hx hm : Hp} {a : Nat} (h : 600 ≤ a ∧ a < 700) : mix hx hm a = hm a := by
  have : PX a = false := by
    cases hp : PX a with
    | true => have := PX_t.mp hp; omega
    | false => rfl
  simp [mix, mx, this]
theorem mix_X {hx hm : Hp} {a : Nat} (h : a < 600 ∨ 700 ≤ a) : mix hx hm a = hx a := by
  simp [mix, mx, PX_t.mpr h]
theorem mix_self (h : Hp) : mix h h = h := by
  funext a
  simp [mix, mx]
/-- runs on heaps of their own are runs one behind the other -/
theorem pair_run {yx ym : Nat} {ax am : List Value} {h hx' hm' : Hp} {r q : Option Value} (h1 : ax.all (okv PX) = true) (h2 : am.all (okv PM) = true) (e1 : ex yx 0 ax [] h = some (r, hx')) (e2 : ex ym 0 am [] h = some (q, hm')) :
    ex ym 0 am [] hx' = some (q, mix hx' hm') := by
  obtain ⟨f1, f2⟩ := ex_loc (g := h) clo_X h1 rfl e1
  obtain ⟨g1, g2⟩ := ex_loc (g := hx') clo_M h2 rfl e2
  have e : mx PM h hx' = hx' := by
    funext a
    by_cases hp : PM a = true
    · have : PX a = false := by
        cases hq : PX a with
        | true => have a1 := PX_t.mp hq; have a2 := PM_t.mp hp; omega
        | false => rfl
      simp only [mx, hp, if_true]
      exact (f2 a this).symm
    · simp only [mx, hp]
      rfl
  have e3 : mx PM hm' hx' = mix hx' hm' := by
    funext a
    by_cases hp : PM a = true
    · rw [mix_M (PM_t.mp hp)]
      simp [mx, hp]
    · have : ¬ (600 ≤ a ∧ a < 700) := fun z => hp (PM_t.mpr z)
      rw [mix_X (by omega)]
      simp [mx, hp]
  rw [e, e3] at g1
  exact g1
