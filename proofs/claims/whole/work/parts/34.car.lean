/-! ===== one car changes ===== -/
/-- the reference's cells of car k -/
def cM (k a b : Nat) : Prop := (617 ≤ a ∧ a ≤ 628 ∧ b = k) ∨ (a = 629 ∧ 3 * k ≤ b ∧ b < 3 * k + 3) ∨ (630 ≤ a ∧ a ≤ 635 ∧ 4 * k ≤ b ∧ b < 4 * k + 4)
theorem act_congr {e f e' f' : Nat → Int32} : ∀ {n : Nat}, (∀ c, c < n → e' c = e c ∧ f' c = f c) → act e' f' n = act e f n
  | 0, _ => rfl
  | n + 1, h => by
    unfold act
    rw [act_congr (fun c hc => h c (by omega)), (h n (by omega)).1, (h n (by omega)).2]
theorem act_one {e f e' f' : Nat → Int32} {k : Nat} : ∀ {n : Nat}, k < n → (∀ c, c ≠ k → e' c = e c ∧ f' c = f c) → act e' f' n + ac (e k) (f k) = act e f n + ac (e' k) (f' k)
  | 0, h, _ => absurd h (Nat.not_lt_zero _)
  | n + 1, h, hc => by
    unfold act
    by_cases hk : k = n
    · subst hk
      rw [act_congr (fun c hlt => hc c (by omega))]
      omega
    · have := act_one (n := n) (k := k) (by omega) hc
      rw [(hc n (by omega)).1, (hc n (by omega)).2]
      omega
/-- the class's cells that a car's change may touch: its own, the ice, the facts, the trial's -/
def cX (k a : Nat) : Prop := (∃ z, z < 10 ∧ a = cI k z) ∨ a = 8 ∨ a = 9 ∨ a = 10 ∨ a = 15 ∨ (11 ≤ a ∧ a ≤ 13) ∨ ∃ z, z < 10 ∧ a = cI 10 z
def cN (k a b : Nat) : Prop := cM k a b ∨ cM 10 a b ∨ a = 610 ∨ a = 614 ∨ (a = 600 ∧ (b = 5 ∨ b = 6)) ∨ a = 654
theorem cX_s {k s j : Nat} : ¬ cX k (sI s j) := by
  intro h
  rcases h with ⟨z, hz, h⟩ | h | h | h | h | h | ⟨z, hz, h⟩ <;> unfold sI at h <;> (try unfold cI at h) <;> omega
theorem cX_r {k s j : Nat} : ¬ cX k (rI s j) := by
  intro h
  rcases h with ⟨z, hz, h⟩ | h | h | h | h | h | ⟨z, hz, h⟩ <;> unfold rI at h <;> (try unfold cI at h) <;> omega
theorem cX_c {k c j : Nat} (h1 : c ≠ k) (h2 : c ≠ 10) (hj : j < 10) : ¬ cX k (cI c j) := by
  intro h
  rcases h with ⟨z, hz, h⟩ | h | h | h | h | h | ⟨z, hz, h⟩ <;> unfold cI at h <;> omega
theorem cX_l {k a : Nat} (h0 : a < 1000) (h1 : ¬ (8 ≤ a ∧ a ≤ 13)) (h2 : a ≠ 15) : ¬ cX k a := by
  intro h
  rcases h with ⟨z, hz, h⟩ | h | h | h | h | h | ⟨z, hz, h⟩ <;> (try unfold cI at h) <;> omega
theorem cN_l {k a b : Nat} (h0 : a < 617 ∨ 635 < a) (h1 : a ≠ 610) (h2 : a ≠ 614) (h3 : a ≠ 654) (h4 : a = 600 → b ≠ 5 ∧ b ≠ 6) : ¬ cN k a b := by
  intro h; unfold cN cM at h; omega
theorem cN_i {k a c : Nat} (h0 : 617 ≤ a ∧ a ≤ 628) (h1 : c ≠ k) (h2 : c ≠ 10) : ¬ cN k a c := by
  intro h; unfold cN cM at h; omega
theorem cN_t {k a c t : Nat} (h0 : 630 ≤ a ∧ a ≤ 635) (h1 : c ≠ k) (h2 : c ≠ 10) (ht : t < 4) : ¬ cN k a (4 * c + t) := by
  intro h; unfold cN cM at h; omega
theorem tr_inv {a j : Nat} {q : Nat × Nat × Int × Int} (hq : tr a j = some q) : ((617 ≤ q.1 ∧ q.1 ≤ 628) → a = cI q.2.1 0 ∧ q.2.1 < 10) ∧ (q.1 = 629 → a = cI (q.2.1 / 3) 2 ∧ q.2.1 < 30) ∧ (q.1 = 630 → a = cI (q.2.1 / 4) (3 + q.2.1 % 4) ∧ q.2.1 < 40) ∧ (q.1 = 610 → a = 9) ∧ (q.1 = 600 → (q.2.1 = 5 ∨ q.2.1 = 6) → a = 8) ∧ q.1 ≠ 614 ∧ q.1 ≠ 654 ∧ ¬ (631 ≤ q.1 ∧ q.1 ≤ 635) := by
  obtain ⟨t1, t2, -⟩ := tr_ok hq
  obtain ⟨w1, -⟩ := tr_where hq
  clear hq
  refine ⟨fun h => ?_, fun h => ?_, fun h => ?_, fun h => ?_, fun h h' => ?_, by omega, by omega, by omega⟩
  · rcases w1 with w | w | w | w | w | w | w | w | w | w | w | w | w | w | w | w | w | w | w
    all_goals first
      | (exfalso; omega)
      | (obtain ⟨w, w'⟩ := w
         refine ⟨?_, w'⟩
         rw [w] at t1
         simp only [ti, Nat.reduceEqDiff, if_true, if_false, Prod.mk.injEq] at t1
         unfold cI
         omega)
  · rw [h] at t1
    simp only [ti, Nat.reduceEqDiff, if_true, if_false, Prod.mk.injEq] at t1
    unfold cI
    omega
  · rw [h] at t1
    simp only [ti, Nat.reduceEqDiff, if_true, if_false, Prod.mk.injEq] at t1
    unfold cI
    omega
  · rw [h] at t1
    simp only [ti, Nat.reduceEqDiff, if_true, if_false, Prod.mk.injEq] at t1
    omega
  · rw [h] at t1
    rcases h' with e | e <;> rw [e] at t1 <;> simp only [ti, Nat.reduceEqDiff, if_true, if_false, Prod.mk.injEq] at t1 <;> omega
/-- a cell of the table that isn't the car's, nor the ice's, has a partner that isn't either -/
theorem tr_away {a j k : Nat} {q : Nat × Nat × Int × Int} (hq : tr a j = some q) (hz : ¬ ((∃ z, z < 10 ∧ a = cI k z) ∨ a = 9 ∨ a = 8)) : ¬ cX k a ∧ ¬ cN k q.1 q.2.1 := by
  obtain ⟨w1, w2, w3, w4, w5, w6, w7, w8⟩ := tr_inv hq
  obtain ⟨-, v2⟩ := tr_where hq
  constructor
  · intro h
    rcases h with h | h | h | h | h | h | ⟨z, hz2, h⟩
    · exact hz (Or.inl h)
    · exact hz (Or.inr (Or.inr h))
    · exact hz (Or.inr (Or.inl h))
    · clear w1 w2 w3 w4 w5 hz; omega
    · clear w1 w2 w3 w4 w5 hz; omega
    · clear w1 w2 w3 w4 w5 hz; omega
    · clear w1 w2 w3 w4 w5 hz; unfold cI at h; omega
  · intro h
    rcases h with h | h | h | h | h | h
    · rcases h with h | h | h
      · obtain ⟨e, -⟩ := w1 ⟨h.1, h.2.1⟩
        rw [h.2.2] at e
        exact hz (Or.inl ⟨0, by decide, e⟩)
      · obtain ⟨e, -⟩ := w2 h.1
        rw [show q.2.1 / 3 = k by omega] at e
        exact hz (Or.inl ⟨2, by decide, e⟩)
      · have h630 : q.1 = 630 := by clear w1 w2 w3 w4 w5 v2; omega
        obtain ⟨e, -⟩ := w3 h630
        rw [show q.2.1 / 4 = k by clear w1 w2 w3 w4 w5 v2; omega] at e
        exact hz (Or.inl ⟨3 + q.2.1 % 4, by omega, e⟩)
    · rcases h with h | h | h
      · have := (w1 ⟨h.1, h.2.1⟩).2
        omega
      · have := (w2 h.1).2
        omega
      · have h630 : q.1 = 630 := by clear w1 w2 w3 w4 w5 v2; omega
        have := (w3 h630).2
        clear w1 w2 w3 w4 w5 v2
        omega
    · exact hz (Or.inr (Or.inl (w4 h)))
    · exact w6 h
    · exact hz (Or.inr (Or.inr (w5 h.1 h.2)))
    · exact w7 h
set_option maxHeartbeats 4000000 in
theorem car_set {i i' k nc : Nat} {x m x' m' : Hp} (I : Inv i (mix x m)) (hc : m 600 2 = nI nc) (hn : nc ≤ 10) (hk : k < nc) (hi' : i ≤ i' ∧ i' ≤ 512)
    (eX : ∀ a b, ¬ cX k a → x' a b = x a b) (eM : ∀ a b, ¬ cN k a b → m' a b = m a b)
    (hT : ∀ a j q, tr a j = some q → ((∃ z, z < 10 ∧ a = cI k z) ∨ a = 9 ∨ a = 8) → x' a j = m' q.1 q.2.1 ∧ q.2.2.1 ≤ (m' q.1 q.2.1).toInt ∧ (m' q.1 q.2.1).toInt ≤ q.2.2.2)
    (h8 : ∀ ns hr, m 600 1 = nI ns → ns ≤ 8 → m 600 0 = nI hr → hr ≤ 102400 → carOK ns hr k k (mix x m) → carOK ns hr k k (mix x' m'))
    (h10 : ac (m' 623 k) (m' 627 k) + i ≤ ac (m 623 k) (m 627 k) + i') : Inv i' (mix x' m') := by
  obtain ⟨ns, nc', nr, hr, tl, sn, i1, a2, a3, a4, a5, a6, a7, a8, a9, a10⟩ := J_open I
  have enc : nc' = nc := nI_inj (by have := a2.2.1.2; omega) (by omega) (by have := a2.2.1.1; rw [mix_600] at this; rw [← this, hc])
  subst enc
  have fX : ∀ a b, (a < 600 ∨ 700 ≤ a) → ¬ cX k a → mix x' m' a b = mix x m a b := fun a b ha h => by
    rw [mix_X ha, mix_X ha]; exact eX a b h
  have fM : ∀ a b, (600 ≤ a ∧ a < 700) → ¬ cN k a b → mix x' m' a b = mix x m a b := fun a b ha h => by
    rw [mix_M ha, mix_M ha]; exact eM a b h
  have fs : ∀ s j b, mix x' m' (sI s j) b = mix x m (sI s j) b := fun s j b => fX _ b (by unfold sI; omega) cX_s
  have fr : ∀ s j b, mix x' m' (rI s j) b = mix x m (rI s j) b := fun s j b => fX _ b (by unfold rI; omega) cX_r
  have fc : ∀ c j b, c ≠ k → c ≠ 10 → j < 10 → mix x' m' (cI c j) b = mix x m (cI c j) b := fun c j b h1 h2 h3 => fX _ b (by unfold cI; omega) (cX_c h1 h2 h3)
  have fl : ∀ a b, (600 ≤ a ∧ a < 700) → (a < 617 ∨ 635 < a) → a ≠ 610 → a ≠ 614 → a ≠ 654 → (a = 600 → b ≠ 5 ∧ b ≠ 6) → mix x' m' a b = mix x m a b := fun a b h0 h1 h2 h3 h4 h5 => fM a b h0 (cN_l h1 h2 h3 h4 h5)
  refine ⟨fun a j q hq => ?_, ns, nc', nr, hr, tl, sn, ?_, I3_c (fun a b hd => ?_) a3, I4_c (fun a b hd => ?_) a4, I5_c (fun a b hd => ?_) a5, I6_c (fun a b hd => ?_) a6, I7_c (fun a b hd => ?_) a7, ?_, ?_, ?_⟩
  · obtain ⟨t1, t2, t3⟩ := tr_ok hq
    by_cases hz : (∃ z, z < 10 ∧ a = cI k z) ∨ a = 9 ∨ a = 8
    · have := hT a j q hq hz
      rw [mix_X t3, mix_M t2, this.1]
      exact ⟨rfl, this.2⟩
    · obtain ⟨z1, z2⟩ := tr_away hq hz
      rw [fX a j t3 z1, fM q.1 q.2.1 t2 z2]
      exact i1 a j q hq
  · obtain ⟨⟨b1, b2, b3⟩, b4, b5, ⟨b6, b7, b8⟩, b9, b10⟩ := a2
    refine ⟨⟨?_, b2, b3⟩, ?_, ?_, ⟨?_, by omega, by omega⟩, ?_, ?_⟩
    · rw [fl 600 1 (by decide) (by decide) (by decide) (by decide) (by decide) (by decide)]; exact b1
    · rw [fl 600 2 (by decide) (by decide) (by decide) (by decide) (by decide) (by decide)]; exact b4
    · rw [fl 600 3 (by decide) (by decide) (by decide) (by decide) (by decide) (by decide)]; exact b5
    · rw [fl 600 0 (by decide) (by decide) (by decide) (by decide) (by decide) (by decide)]; exact b6
    · rw [fl 600 4 (by decide) (by decide) (by decide) (by decide) (by decide) (by decide)]; exact b9
    · rw [fl 600 38 (by decide) (by decide) (by decide) (by decide) (by decide) (by decide)]; exact b10
  · rcases hd with rfl | ⟨s, rfl, rfl⟩
    · exact fl _ _ (by decide) (by decide) (by decide) (by decide) (by decide) (by omega)
    · exact fs s 0 7
  · rcases hd with ⟨s, rfl | rfl⟩
    · exact fs _ _ _
    · exact fs _ _ _
  · rcases hd with rfl | rfl | ⟨s, rfl | rfl⟩
    · exact fl _ _ (by decide) (by decide) (by decide) (by decide) (by decide) (by omega)
    · exact fl _ _ (by decide) (by decide) (by decide) (by decide) (by decide) (by omega)
    · exact fs _ _ _
    · exact fs _ _ _
  · rcases hd with ⟨rfl, rfl⟩ | rfl | rfl
    · exact fl _ _ (by decide) (by decide) (by decide) (by decide) (by decide) (by omega)
    · exact fX _ _ (by decide) (cX_l (by decide) (by decide) (by decide))
    · exact fl _ _ (by decide) (by decide) (by decide) (by decide) (by decide) (by omega)
  · rcases hd with hd | ⟨r, j, rfl⟩
    · clear h10 hT h8 eX eM
      exact fl a b (by omega) (by omega) (by omega) (by omega) (by omega) (by omega)
    · exact fr _ _ _
  · intro c hc2
    by_cases hck : c = k
    · subst hck
      exact h8 ns hr (by have := a2.1.1; rw [mix_600] at this; exact this) a2.1.2.2 (by have := a2.2.2.2.1.1; rw [mix_600] at this; exact this) (by have := a2.2.2.2.1; omega) (a8 c hc2)
    · have c10 : c ≠ 10 := by omega
      clear h10 hT h8 eX eM
      exact carOK_c (fun b hb => fc c 0 b hck c10 (by decide)) (fun t b ht h1 h2 => fc c (3 + t) b hck c10 (by omega)) (fun a ha => fM a c (by omega) (cN_i (by omega) hck c10)) (fun a t ht h1 h2 => fM a (4 * c + t) (by omega) (cN_t (by omega) hck c10 ht)) (a8 c hc2)
  · intro c h1 h2
    have hck : c ≠ k := by omega
    have c10 : c ≠ 10 := by omega
    obtain ⟨b1, b2⟩ := a9 c h1 h2
    refine ⟨?_, fun t ht => ?_⟩
    · rw [fc c 0 2 hck c10 (by decide), fc c 0 7 hck c10 (by decide), fc c 0 11 hck c10 (by decide), fM 626 c (by decide) (cN_i (by decide) hck c10), fM 622 c (by decide) (cN_i (by decide) hck c10), fM 624 c (by decide) (cN_i (by decide) hck c10), fM 627 c (by decide) (cN_i (by decide) hck c10)]
      exact b1
    · rw [fc c (3 + t) 1 hck c10 (by omega), fc c (3 + t) 2 hck c10 (by omega), fc c (3 + t) 3 hck c10 (by omega), fM 635 (4 * c + t) (by decide) (cN_t (by decide) hck c10 ht)]
      exact b2 t ht
  · unfold I10 at a10 ⊢
    rw [mix_623, mix_627] at a10 ⊢
    have A := act_one (e := m 623) (f := m 627) (e' := fun c => if c < nc' then m' 623 c else m 623 c) (f' := fun c => if c < nc' then m' 627 c else m 627 c) hk (fun c hc2 => by
      by_cases hl : c < nc'
      · simp only [hl, if_true]
        have c10 : c ≠ 10 := by omega
        have g1 := fM 623 c (by decide) (cN_i (by decide) hc2 c10)
        have g2 := fM 627 c (by decide) (cN_i (by decide) hc2 c10)
        rw [mix_623, mix_623] at g1
        rw [mix_627, mix_627] at g2
        exact ⟨g1, g2⟩
      · simp only [hl, if_false, and_self])
    have B := act_congr (e := m' 623) (f := m' 627) (e' := fun c => if c < nc' then m' 623 c else m 623 c) (f' := fun c => if c < nc' then m' 627 c else m 627 c) (n := nc') (fun c hl => by simp only [hl, if_true, and_self])
    rw [B] at A
    simp only [hk, if_true] at A
    omega
