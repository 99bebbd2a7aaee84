/-! ===== one car changes ===== -/
/-- the reference's cells of car k -/
def cM (k a b : Nat) : Prop := (617 ≤ a ∧ a ≤ 628 ∧ b = k) ∨ (a = 629 ∧ 3 * k ≤ b ∧ b < 3 * k + 3) ∨ (630 ≤ a ∧ a ≤ 635 ∧ 4 * k ≤ b ∧ b < 4 * k + 4)
theorem act_congr {e f e' f' : Nat → Int32} : ∀ {n : Nat}, (∀ c, c < n → e' c = e c ∧ f' c = f c) → act e' f' n = act e f n
  | 0, _ => rfl
  | n + 1, h => by
    unfold act
    rw [act_congr (fun c hc => h c (by omega)), (h n (by omega)).1, (h n (by omega)).2]
theorem act_one {e f e' f' : Nat → Int32} {k : Nat} : ∀ {n : Nat}, k < n → (∀ c, c ≠ k → e' c = e c ∧ f' c = f c) → act e' f' n + (if e k ≠ -1 ∨ f k = 1 then 1 else 0) = act e f n + (if e' k ≠ -1 ∨ f' k = 1 then 1 else 0)
  | 0, h, _ => absurd h (Nat.not_lt_zero _)
  | n + 1, h, hc => by
    unfold act
    by_cases hk : k = n
    · subst hk
      rw [act_congr (fun c hlt => hc c (by omega))]
      omega
    · have := act_one (n := n) (k := k) (by omega) hc
      rw [(hc n (by omega)).1, (hc n (by omega)).2]
      omega
/-- the class's cells that a car's change may touch: its own, the ice, the facts, the trial's -/
def cX (k a : Nat) : Prop := (∃ z, z < 10 ∧ a = cI k z) ∨ a = 8 ∨ a = 9 ∨ a = 10 ∨ a = 15 ∨ (11 ≤ a ∧ a ≤ 13) ∨ ∃ z, z < 10 ∧ a = cI 10 z
def cN (k a b : Nat) : Prop := cM k a b ∨ cM 10 a b ∨ a = 610 ∨ a = 614 ∨ (a = 600 ∧ (b = 5 ∨ b = 6)) ∨ a = 654
set_option maxHeartbeats 4000000 in
theorem car_set {i i' k nc : Nat} {x m x' m' : Hp} (I : Inv i (mix x m)) (hc : m 600 2 = nI nc) (hn : nc ≤ 10) (hk : k < nc) (hi' : i ≤ i' ∧ i' ≤ 512)
    (eX : ∀ a b, ¬ cX k a → x' a b = x a b) (eM : ∀ a b, ¬ cN k a b → m' a b = m a b)
    (hT : ∀ a j q, tr a j = some q → ((∃ z, z < 10 ∧ a = cI k z) ∨ a = 9 ∨ a = 8) → x' a j = m' q.1 q.2.1 ∧ q.2.2.1 ≤ (m' q.1 q.2.1).toInt ∧ (m' q.1 q.2.1).toInt ≤ q.2.2.2)
    (h8 : ∀ ns hr, m 600 1 = nI ns → ns ≤ 8 → m 600 0 = nI hr → hr ≤ 102400 → carOK ns hr k k (mix x m) → carOK ns hr k k (mix x' m'))
    (h10 : (if m' 623 k ≠ -1 ∨ m' 627 k = 1 then 1 else 0) + i ≤ (if m 623 k ≠ -1 ∨ m 627 k = 1 then 1 else 0) + i') : Inv i' (mix x' m') := by
  obtain ⟨ns, nc', nr, hr, tl, sn, i1, a2, a3, a4, a5, a6, a7, a8, a9, a10⟩ := J_open I
  have enc : nc' = nc := nI_inj (by have := a2.2.1.2; omega) (by omega) (by have := a2.2.1.1; rw [mix_600] at this; rw [← this, hc])
  subst enc
  have e0 : ∀ a b, ¬ (cX k a ∧ ¬ (600 ≤ a ∧ a < 700)) → ¬ (cN k a b ∧ (600 ≤ a ∧ a < 700)) → mix x' m' a b = mix x m a b := by
    intro a b g1 g2
    by_cases ha : 600 ≤ a ∧ a < 700
    · rw [mix_M ha, mix_M ha]
      exact eM a b (fun z => g2 ⟨z, ha⟩)
    · rw [mix_X (by omega), mix_X (by omega)]
      exact eX a b (fun z => g1 ⟨z, ha⟩)
  have nX : ∀ a, cX k a → (1000 ≤ a ∧ (a - 1000) % 3 = 1 ∧ ((a - 1000) / 30 = k ∨ (a - 1000) / 30 = 10)) ∨ a = 8 ∨ a = 9 ∨ a = 10 ∨ a = 15 ∨ (11 ≤ a ∧ a ≤ 13) := by
    intro a h
    rcases h with ⟨z, hz, h⟩ | h | h | h | h | h | ⟨z, hz, h⟩ <;> (try unfold cI at h) <;> omega
  have nN : ∀ a b, cN k a b → ((617 ≤ a ∧ a ≤ 628 ∧ (b = k ∨ b = 10)) ∨ (a = 629 ∧ ((3 * k ≤ b ∧ b < 3 * k + 3) ∨ (30 ≤ b ∧ b < 33))) ∨ (630 ≤ a ∧ a ≤ 635 ∧ ((4 * k ≤ b ∧ b < 4 * k + 4) ∨ (40 ≤ b ∧ b < 44)))) ∨ a = 610 ∨ a = 614 ∨ (a = 600 ∧ (b = 5 ∨ b = 6)) ∨ a = 654 := by
    intro a b h
    unfold cN cM at h
    omega
  have off : ∀ a b, ¬ ((1000 ≤ a ∧ (a - 1000) % 3 = 1 ∧ ((a - 1000) / 30 = k ∨ (a - 1000) / 30 = 10)) ∨ a = 8 ∨ a = 9 ∨ a = 10 ∨ a = 15 ∨ (11 ≤ a ∧ a ≤ 13)) → ¬ (((617 ≤ a ∧ a ≤ 628 ∧ (b = k ∨ b = 10)) ∨ (a = 629 ∧ ((3 * k ≤ b ∧ b < 3 * k + 3) ∨ (30 ≤ b ∧ b < 33))) ∨ (630 ≤ a ∧ a ≤ 635 ∧ ((4 * k ≤ b ∧ b < 4 * k + 4) ∨ (40 ≤ b ∧ b < 44)))) ∨ a = 610 ∨ a = 614 ∨ (a = 600 ∧ (b = 5 ∨ b = 6)) ∨ a = 654) → mix x' m' a b = mix x m a b :=
    fun a b g1 g2 => e0 a b (fun z => g1 (nX a z.1)) (fun z => g2 (nN a b z.1))
  refine ⟨fun a j q hq => ?_, ns, nc', nr, hr, tl, sn, ?_, I3_c (fun a b hd => ?_) a3, I4_c (fun a b hd => ?_) a4, I5_c (fun a b hd => ?_) a5, I6_c (fun a b hd => ?_) a6, I7_c (fun a b hd => ?_) a7, ?_, ?_, ?_⟩
  · obtain ⟨t1, t2, t3⟩ := tr_ok hq
    obtain ⟨w1, w2⟩ := tr_where hq
    by_cases hz : (∃ z, z < 10 ∧ a = cI k z) ∨ a = 9 ∨ a = 8
    · have := hT a j q hq hz
      rw [mix_X t3, mix_M t2, this.1]
      exact ⟨rfl, this.2⟩
    · have z1 : ¬ (1000 ≤ a ∧ (a - 1000) % 3 = 1 ∧ (a - 1000) / 30 = k) := fun z => hz (Or.inl ⟨(a - 1000) / 3 % 10, by omega, by unfold cI; omega⟩)
      have z2 : ¬ a = 9 ∧ ¬ a = 8 := ⟨fun z => hz (Or.inr (Or.inl z)), fun z => hz (Or.inr (Or.inr z))⟩
      have hti : q.1 = 610 ∨ (617 ≤ q.1 ∧ q.1 ≤ 630) ∨ (q.1 = 600 ∧ (q.2.1 = 5 ∨ q.2.1 = 6)) → a = 9 ∨ a = 8 ∨ (1000 ≤ a ∧ (q.1 = 629 → (a - 1000) / 30 = q.2.1 / 3) ∧ (q.1 = 630 → (a - 1000) / 30 = q.2.1 / 4) ∧ (617 ≤ q.1 ∧ q.1 ≤ 628 → (a - 1000) / 30 = q.2.1) ∧ (a - 1000) % 3 = 1) := by
        intro hq1
        rcases w1 with w | w | w | w | w | w | w | w | w | w | w | w | w | w | w | w | w | w | w
        all_goals first | (exfalso; omega) | skip
        · have : q.2.1 = 5 ∨ q.2.1 = 6 := by omega
          rw [w.1] at t1
          rcases this with e | e <;> rw [e] at t1 <;> simp [ti] at t1 <;> omega
        · rw [w] at t1
          simp [ti] at t1
          omega
        all_goals
          rw [w.1] at t1
          simp [ti] at t1
          omega
      rw [off a j (by omega) (by omega), off q.1 q.2.1 (by omega) (by omega)]
      exact i1 a j q hq
  · obtain ⟨⟨b1, b2, b3⟩, b4, b5, ⟨b6, b7, b8⟩, b9, b10⟩ := a2
    refine ⟨⟨?_, b2, b3⟩, ?_, ?_, ⟨?_, by omega, by omega⟩, ?_, ?_⟩
    · rw [off 600 1 (by omega) (by omega)]; exact b1
    · rw [off 600 2 (by omega) (by omega)]; exact b4
    · rw [off 600 3 (by omega) (by omega)]; exact b5
    · rw [off 600 0 (by omega) (by omega)]; exact b6
    · rw [off 600 4 (by omega) (by omega)]; exact b9
    · rw [off 600 38 (by omega) (by omega)]; exact b10
  · rcases hd with hd | ⟨s, hd⟩ <;> (try unfold sI at hd) <;> exact off a b (by omega) (by omega)
  · obtain ⟨s, hd⟩ := hd; unfold sI at hd; exact off a b (by omega) (by omega)
  · rcases hd with hd | hd | ⟨s, hd⟩ <;> (try unfold sI at hd) <;> exact off a b (by omega) (by omega)
  · unfold D6 at hd; exact off a b (by omega) (by omega)
  · rcases hd with hd | ⟨r, j, hd⟩ <;> (try unfold rI at hd) <;> exact off a b (by omega) (by omega)
  · intro c hc2
    by_cases hck : c = k
    · subst hck
      exact h8 ns hr (by have := a2.1.1; rw [mix_600] at this; exact this) a2.1.2.2 (by have := a2.2.2.2.1.1; rw [mix_600] at this; exact this) (by have := a2.2.2.2.1; omega) (a8 c hc2)
    · exact carOK_c (fun b hb => off _ _ (by unfold cI; omega) (by unfold cI; omega)) (fun t b ht h1 h2 => off _ _ (by unfold cI; omega) (by unfold cI; omega)) (fun a ha => off _ _ (by omega) (by omega)) (fun a t ht h1 h2 => off _ _ (by omega) (by omega)) (a8 c hc2)
  · intro c h1 h2
    obtain ⟨b1, b2⟩ := a9 c h1 h2
    refine ⟨?_, fun t ht => ?_⟩
    · rw [off (cI c 0) 2 (by unfold cI; omega) (by unfold cI; omega), off (cI c 0) 7 (by unfold cI; omega) (by unfold cI; omega), off (cI c 0) 11 (by unfold cI; omega) (by unfold cI; omega), off 626 c (by omega) (by omega), off 622 c (by omega) (by omega), off 624 c (by omega) (by omega), off 627 c (by omega) (by omega)]
      exact b1
    · rw [off (cI c (3 + t)) 1 (by unfold cI; omega) (by unfold cI; omega), off (cI c (3 + t)) 2 (by unfold cI; omega) (by unfold cI; omega), off (cI c (3 + t)) 3 (by unfold cI; omega) (by unfold cI; omega), off 635 (4 * c + t) (by omega) (by omega)]
      exact b2 t ht
  · unfold I10 at a10 ⊢
    rw [mix_623, mix_627] at a10 ⊢
    have A := act_one (e := m 623) (f := m 627) (e' := fun c => if c < nc' then m' 623 c else m 623 c) (f' := fun c => if c < nc' then m' 627 c else m 627 c) hk (fun c hc2 => by
      by_cases hl : c < nc'
      · simp only [hl, if_true]
        have g1 := off 623 c (by omega) (by omega)
        have g2 := off 627 c (by omega) (by omega)
        rw [mix_623, mix_623] at g1
        rw [mix_627, mix_627] at g2
        exact ⟨g1, g2⟩
      · simp only [hl, if_false, and_self])
    have B := act_congr (e := m' 623) (f := m' 627) (e' := fun c => if c < nc' then m' 623 c else m 623 c) (f' := fun c => if c < nc' then m' 627 c else m 627 c) (n := nc') (fun c hl => by simp only [hl, if_true, and_self])
    rw [B] at A
    simp only [hk, if_true] at A
    omega
