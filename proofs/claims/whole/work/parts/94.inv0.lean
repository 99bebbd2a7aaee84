def c1k (k : Nat) : Bool := (List.range 80).all fun j => match tr k j with
  | none => true
  | some q => decide (h0 k j = h0 q.1 q.2.1) && decide (q.2.2.1 ≤ (h0 k j).toInt) && decide ((h0 k j).toInt ≤ q.2.2.2)
set_option maxRecDepth 1000000 in
theorem i1_chk : (List.range 1400).all c1k = true := by decide +kernel
theorem I1_0 : I1 h0 := by
  intro k j q hq
  have hb : k < 1400 ∧ j < 80 := by
    rcases Nat.lt_or_ge k 1400 with h | h
    · rcases Nat.lt_or_ge j 80 with h' | h'
      · exact ⟨h, h'⟩
      · unfold tr at hq
        rw [if_pos (Or.inr h')] at hq
        cases hq
    · unfold tr at hq
      rw [if_pos (Or.inl h)] at hq
      cases hq
  have h1 := List.all_eq_true.mp i1_chk k (List.mem_range.mpr hb.1)
  have h2 := List.all_eq_true.mp h1 j (List.mem_range.mpr hb.2)
  rw [hq] at h2
  simp only [Bool.and_eq_true, decide_eq_true_eq] at h2
  exact ⟨h2.1.1, h2.1.2, h2.2⟩
theorem I2_0 : I2 0 2 0 0 0 0 0 h0 := ⟨⟨by decide +kernel, by decide, by decide⟩, ⟨by decide +kernel, by decide⟩, ⟨by decide +kernel, by decide⟩, ⟨by decide +kernel, by decide, by decide⟩, ⟨by decide +kernel, by decide⟩, by decide +kernel⟩
theorem i3_a : h0 (sI 0 0) 7 = h0 609 0 ∧ 1 ≤ (h0 609 0).toInt ∧ (h0 609 0).toInt ≤ 12 := by decide +kernel
theorem i3_b : ∀ s, s < 8 → 2 ≤ s + 1 → h0 (sI s 0) 7 = -1 := by decide +kernel
theorem I3_0 : I3 2 h0 := ⟨fun s hs => by rw [show s = 0 by omega]; exact i3_a, i3_b⟩
theorem I4_0 : I4 h0 := by unfold I4; decide +kernel
theorem i5_b : ∀ s, s < 8 → ∀ q, q < 24 → h0 (sI s 3) q = nI 0 ∧ h0 (sI s 4) q = nI 0 := by decide +kernel
theorem I5_0 : I5 0 0 h0 := ⟨fun i hi => absurd hi (Nat.not_lt_zero i), fun s hs q hq => ⟨0, Nat.le_refl 0, (i5_b s hs q hq).1, by
  rw [(i5_b s hs q hq).2]
  split <;> rfl⟩⟩
theorem I6_0 : I6 h0 := Or.inr ⟨by decide +kernel, by decide +kernel⟩
theorem i9_b : ∀ c, c < 10 → (h0 (cI c 0) 2 = nI c ∧ h0 (cI c 0) 7 = -1 ∧ h0 (cI c 0) 11 = 0 ∧ h0 626 c = 0 ∧ h0 622 c = 0 ∧ h0 624 c = 0 ∧ h0 627 c = 0) ∧ ∀ t, t < 4 → h0 (cI c (3 + t)) 1 = -1 ∧ h0 (cI c (3 + t)) 2 = 0 ∧ h0 (cI c (3 + t)) 3 = 0 ∧ h0 635 (4 * c + t) = 0 := by decide +kernel
theorem Inv_0 : Inv 0 h0 := ⟨I1_0, 2, 0, 0, 0, 0, 0, I2_0, I3_0, I4_0, I5_0, I6_0, fun r hr => absurd hr (Nat.not_lt_zero r), fun c hc => absurd hc (Nat.not_lt_zero c), fun c _ hc => i9_b c hc, Nat.le_refl 0⟩
set_option maxRecDepth 1000000 in
theorem bo_b : ∀ k, k < 1400 → kd k < 9 → ∀ j, j < 55 → ft (kd k) j = 1 → h0 k j = 0 ∨ h0 k j = 1 := by decide +kernel
theorem Bo_0 : Bo h0 := by
  intro k j hk hj
  have hj2 : j < 55 := by
    rcases Nat.lt_or_ge j 55 with h | h
    · exact h
    · unfold ft at hj
      rw [if_neg (by omega)] at hj
      cases hj
  exact bo_b k (kd_lt (by omega)) hk j hj2 hj
