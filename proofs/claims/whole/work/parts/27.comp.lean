/-! ===== the parts of J, each by the cells that it reads ===== -/
def D2 (a b : Nat) : Prop := a = 600 ∧ (b = 0 ∨ b = 1 ∨ b = 2 ∨ b = 3 ∨ b = 4 ∨ b = 38)
def D3 (a b : Nat) : Prop := a = 609 ∨ ∃ s, a = sI s 0 ∧ b = 7
def D4 (a _b : Nat) : Prop := ∃ s, a = sI s 1 ∨ a = sI s 2
def D5 (a _b : Nat) : Prop := a = 636 ∨ a = 637 ∨ ∃ s, a = sI s 3 ∨ a = sI s 4
def D6 (a b : Nat) : Prop := (a = 600 ∧ b = 51) ∨ a = 7 ∨ a = 648
def D7 (a _b : Nat) : Prop := (639 ≤ a ∧ a ≤ 646) ∨ ∃ r j, a = rI r j
def D8 (a b : Nat) : Prop := (a = 617 ∨ (620 ≤ a ∧ a ≤ 624) ∨ a = 626 ∨ a = 627 ∨ (631 ≤ a ∧ a ≤ 635)) ∨ (∃ c, a = cI c 0 ∧ (b = 2 ∨ b = 3 ∨ b = 7 ∨ b = 11)) ∨ ∃ c t, t < 4 ∧ a = cI c (3 + t) ∧ 1 ≤ b ∧ b ≤ 5
def D10 (a _b : Nat) : Prop := a = 623 ∨ a = 627
section COMP
variable {i ns nc nr hr tl sn : Nat} {h h' : Hp}
theorem I2_c (E : ∀ a b, D2 a b → h' a b = h a b) (I : I2 i ns nc nr hr tl sn h) : I2 i ns nc nr hr tl sn h' := by
  have e0 : h' 600 0 = h 600 0 := E _ _ (by unfold D2; omega)
  have e1 : h' 600 1 = h 600 1 := E _ _ (by unfold D2; omega)
  have e2 : h' 600 2 = h 600 2 := E _ _ (by unfold D2; omega)
  have e3 : h' 600 3 = h 600 3 := E _ _ (by unfold D2; omega)
  have e4 : h' 600 4 = h 600 4 := E _ _ (by unfold D2; omega)
  have e38 : h' 600 38 = h 600 38 := E _ _ (by unfold D2; omega)
  simp only [I2, e0, e1, e2, e3, e4, e38] at I ⊢; exact I
theorem I3_c (E : ∀ a b, D3 a b → h' a b = h a b) (I : I3 ns h) : I3 ns h' := by
  have e : h' 609 = h 609 := funext fun b => E _ _ (Or.inl rfl)
  have s0 : ∀ s, h' (sI s 0) 7 = h (sI s 0) 7 := fun s => E _ _ (Or.inr ⟨s, rfl, rfl⟩)
  simp only [I3, e, s0] at I ⊢; exact I
theorem I4_c (E : ∀ a b, D4 a b → h' a b = h a b) (I : I4 h) : I4 h' := by
  have s1 : ∀ s, h' (sI s 1) = h (sI s 1) := fun s => funext fun b => E _ _ ⟨s, Or.inl rfl⟩
  have s2 : ∀ s, h' (sI s 2) = h (sI s 2) := fun s => funext fun b => E _ _ ⟨s, Or.inr rfl⟩
  simp only [I4, s1, s2] at I ⊢; exact I
theorem I5_c (E : ∀ a b, D5 a b → h' a b = h a b) (I : I5 hr sn h) : I5 hr sn h' := by
  have e1 : h' 636 = h 636 := funext fun b => E _ _ (Or.inl rfl)
  have e2 : h' 637 = h 637 := funext fun b => E _ _ (Or.inr (Or.inl rfl))
  have s3 : ∀ s, h' (sI s 3) = h (sI s 3) := fun s => funext fun b => E _ _ (Or.inr (Or.inr ⟨s, Or.inl rfl⟩))
  have s4 : ∀ s, h' (sI s 4) = h (sI s 4) := fun s => funext fun b => E _ _ (Or.inr (Or.inr ⟨s, Or.inr rfl⟩))
  simp only [I5, e1, e2, s3, s4] at I ⊢; exact I
theorem I6_c (E : ∀ a b, D6 a b → h' a b = h a b) (I : I6 h) : I6 h' := by
  have e1 : h' 600 51 = h 600 51 := E _ _ (Or.inl ⟨rfl, rfl⟩)
  have e2 : h' 7 = h 7 := funext fun b => E _ _ (Or.inr (Or.inl rfl))
  have e3 : h' 648 = h 648 := funext fun b => E _ _ (Or.inr (Or.inr rfl))
  simp only [I6, e1, e2, e3] at I ⊢; exact I
theorem ruleOK_c {r : Nat} (E : ∀ a b, D7 a b → h' a b = h a b) (I : ruleOK h r) : ruleOK h' r := by
  have r0 : ∀ r j, h' (rI r j) = h (rI r j) := fun r j => funext fun b => E _ _ (Or.inr ⟨r, j, rfl⟩)
  have e639 : h' 639 = h 639 := funext fun b => E _ _ (Or.inl (by omega))
  have e640 : h' 640 = h 640 := funext fun b => E _ _ (Or.inl (by omega))
  have e641 : h' 641 = h 641 := funext fun b => E _ _ (Or.inl (by omega))
  have e642 : h' 642 = h 642 := funext fun b => E _ _ (Or.inl (by omega))
  have e643 : h' 643 = h 643 := funext fun b => E _ _ (Or.inl (by omega))
  have e644 : h' 644 = h 644 := funext fun b => E _ _ (Or.inl (by omega))
  have e645 : h' 645 = h 645 := funext fun b => E _ _ (Or.inl (by omega))
  have e646 : h' 646 = h 646 := funext fun b => E _ _ (Or.inl (by omega))
  simp only [ruleOK, r0, e639, e640, e641, e642, e643, e644, e645, e646] at I ⊢; exact I
theorem I7_c (E : ∀ a b, D7 a b → h' a b = h a b) (I : I7 nr h) : I7 nr h' := fun r hr => ruleOK_c E (I r hr)
theorem tierOK_c {m c t : Nat} (e1 : ∀ b, 1 ≤ b → b ≤ 5 → h' (cI c (3 + t)) b = h (cI c (3 + t)) b) (e2 : ∀ a, 631 ≤ a → a ≤ 635 → h' a (4 * c + t) = h a (4 * c + t)) (I : tierOK m c t h) : tierOK m c t h' := by
  simp only [tierOK, e1 1 (by omega) (by omega), e1 2 (by omega) (by omega), e1 3 (by omega) (by omega), e1 4 (by omega) (by omega), e1 5 (by omega) (by omega), e2 631 (by omega) (by omega), e2 632 (by omega) (by omega), e2 633 (by omega) (by omega), e2 634 (by omega) (by omega), e2 635 (by omega) (by omega)] at I ⊢
  exact I
/-- a car by its own cells alone -/
theorem carOK_c {m n c : Nat} (e0 : ∀ b, (b = 2 ∨ b = 3 ∨ b = 7 ∨ b = 11) → h' (cI c 0) b = h (cI c 0) b) (e1 : ∀ t b, t < 4 → 1 ≤ b → b ≤ 5 → h' (cI c (3 + t)) b = h (cI c (3 + t)) b)
    (e2 : ∀ a, (a = 617 ∨ (620 ≤ a ∧ a ≤ 624) ∨ a = 626) → h' a c = h a c) (e3 : ∀ a t, t < 4 → 631 ≤ a → a ≤ 635 → h' a (4 * c + t) = h a (4 * c + t)) (I : carOK ns m n c h) : carOK ns m n c h' := by
  obtain ⟨b1, b2, b3, b4, b5, b6⟩ := I
  refine ⟨?_, ?_, ?_, ?_, ?_, fun t ht => tierOK_c (fun b => e1 t b ht) (fun a => e3 a t ht) (b6 t ht)⟩
  · rw [e0 2 (by omega)]; exact b1
  · rw [e0 3 (by omega), e2 617 (by omega)]; exact b2
  · rw [e0 7 (by omega), e2 623 (by omega)]; exact b3
  · rw [e0 11 (by omega), e2 626 (by omega)]; exact b4
  · rw [e2 620 (by omega), e2 621 (by omega), e2 622 (by omega), e2 623 (by omega), e2 624 (by omega)]; exact b5
theorem D8_car (E : ∀ a b, D8 a b → h' a b = h a b) {m n c : Nat} (I : carOK ns m n c h) : carOK ns m n c h' :=
  carOK_c (fun b hb => E _ _ (Or.inr (Or.inl ⟨c, rfl, hb⟩))) (fun t b ht h1 h2 => E _ _ (Or.inr (Or.inr ⟨c, t, ht, rfl, h1, h2⟩))) (fun a ha => E _ _ (Or.inl (by omega))) (fun a t ht h1 h2 => E _ _ (Or.inl (by omega))) I
theorem I8_c (E : ∀ a b, D8 a b → h' a b = h a b) (I : I8 ns nc hr h) : I8 ns nc hr h' := fun c hc => D8_car E (I c hc)
theorem I9_c (E : ∀ a b, D8 a b → h' a b = h a b) (I : I9 nc h) : I9 nc h' := by
  intro c h1 h2
  obtain ⟨b1, b2⟩ := I c h1 h2
  have c0 : ∀ b, (b = 2 ∨ b = 3 ∨ b = 7 ∨ b = 11) → h' (cI c 0) b = h (cI c 0) b := fun b hb => E _ _ (Or.inr (Or.inl ⟨c, rfl, hb⟩))
  have r : ∀ a j, (a = 617 ∨ (620 ≤ a ∧ a ≤ 624) ∨ a = 626 ∨ a = 627 ∨ (631 ≤ a ∧ a ≤ 635)) → h' a j = h a j := fun a j ha => E _ _ (Or.inl ha)
  refine ⟨?_, fun t ht => ?_⟩
  · rw [c0 2 (by omega), c0 7 (by omega), c0 11 (by omega), r 626 c (by omega), r 622 c (by omega), r 624 c (by omega), r 627 c (by omega)]; exact b1
  · have tt : ∀ b, 1 ≤ b → b ≤ 5 → h' (cI c (3 + t)) b = h (cI c (3 + t)) b := fun b h1 h2 => E _ _ (Or.inr (Or.inr ⟨c, t, ht, rfl, h1, h2⟩))
    rw [tt 1 (by omega) (by omega), tt 2 (by omega) (by omega), tt 3 (by omega) (by omega), r 635 _ (by omega)]
    exact b2 t ht
theorem I10_c (E : ∀ a b, D10 a b → h' a b = h a b) (I : I10 i nc sn h) : I10 i nc sn h' := by
  have e1 : h' 623 = h 623 := funext fun b => E _ _ (Or.inl rfl)
  have e2 : h' 627 = h 627 := funext fun b => E _ _ (Or.inr rfl)
  simp only [I10, e1, e2] at I ⊢; exact I
end COMP
