/-! ===== the relation within an hour ===== -/
def I2r (ns nc nr hr tl sn : Nat) (h : Hp) : Prop := (h 600 1 = nI ns ∧ 2 ≤ ns ∧ ns ≤ 8) ∧ (h 600 2 = nI nc ∧ nc ≤ 10) ∧ (h 600 3 = nI nr ∧ nr ≤ 10) ∧ (h 600 0 = nI hr ∧ hr ≤ 102400) ∧ (h 600 4 = nI tl ∧ tl ≤ 80) ∧ h 600 38 = nI sn
/-- the cars below k have lived the hour that is open -/
def I8k (ns nc hr k : Nat) (h : Hp) : Prop := ∀ c, c < nc → carOK ns (if c < k then hr + 1 else hr) c c h
def RInv (i hr nc k : Nat) (h : Hp) : Prop := I1 h ∧ ∃ ns nr tl sn, I2r ns nc nr hr tl sn h ∧ I3 ns h ∧ I4 h ∧ I5 hr sn h ∧ I6 h ∧ I7 nr h ∧ I8k ns nc hr k h ∧ I9 nc h ∧ I10 i nc sn h
theorem RInv_of {i : Nat} {h : Hp} (I : Inv i h) : ∃ hr nc, hr ≤ 200 * i ∧ i ≤ 512 ∧ RInv i hr nc 0 h := by
  obtain ⟨ns, nc, nr, hr, tl, sn, i1, ⟨b1, b2, b3, ⟨b4, b5, b6⟩, b7, b8⟩, a3, a4, a5, a6, a7, a8, a9, a10⟩ := J_open I
  exact ⟨hr, nc, b5, b6, i1, ns, nr, tl, sn, ⟨b1, b2, b3, ⟨b4, by omega⟩, b7, b8⟩, a3, a4, a5, a6, a7, fun c hc => by rw [if_neg (Nat.not_lt_zero c)]; exact a8 c hc, a9, a10⟩
theorem Inv_ofR {i i' hr nc : Nat} {h : Hp} (R : RInv i hr nc 0 h) (h1 : hr ≤ 200 * i') (h2 : i ≤ i') (h3 : i' ≤ 512) : Inv i' h := by
  obtain ⟨i1, ns, nr, tl, sn, ⟨b1, b2, b3, ⟨b4, b5⟩, b7, b8⟩, a3, a4, a5, a6, a7, a8, a9, a10⟩ := R
  refine ⟨i1, ns, nc, nr, hr, tl, sn, ⟨b1, b2, b3, ⟨b4, h1, h3⟩, b7, b8⟩, a3, a4, a5, a6, a7, fun c hc => ?_, a9, ?_⟩
  · have := a8 c hc
    rw [if_neg (Nat.not_lt_zero c)] at this
    exact this
  · unfold I10 at a10 ⊢
    omega
theorem tr2 {x m : Hp} (I : I1 (mix x m)) {k j : Nat} {q : Nat × Nat × Int × Int} (hq : tr k j = some q) : x k j = m q.1 q.2.1 ∧ q.2.2.1 ≤ (m q.1 q.2.1).toInt ∧ (m q.1 q.2.1).toInt ≤ q.2.2.2 := by
  obtain ⟨e1, e2, e3⟩ := tr_ok hq
  obtain ⟨a, b, c⟩ := I k j q hq
  rw [mix_X e3] at a b c
  rw [mix_M e2] at a
  rw [a] at b c
  exact ⟨a, b, c⟩
theorem tr_car2 {k z j : Nat} {q : Nat × Nat × Int × Int} (hk : k < 10) (hz : z < 10) (hq : tr (cI k z) j = some q) : (z = 0 ∧ ((j = 4 ∧ q = (618, k, 0, 100)) ∨ (j = 5 ∧ q = (619, k, 0, 1)) ∨ (j = 6 ∧ q = (620, k, 0, 7)) ∨ (j = 8 ∧ q = (622, k, 0, 12)) ∨ (j = 9 ∧ q = (624, k, 0, 48)) ∨ (j = 10 ∧ q = (625, k, -2147483648, 2147483647)) ∨ (j = 12 ∧ q = (627, k, 0, 1)) ∨ (j = 13 ∧ q = (628, k, 0, 1)))) ∨ (z = 2 ∧ j < 3 ∧ q = (629, 3 * k + j, -2147483648, 2147483647)) ∨ ∃ t, t < 4 ∧ z = 3 + t ∧ j = 0 ∧ q = (630, 4 * k + t, -4440, 500) := by
  obtain ⟨-, w2⟩ := tr_where hq
  have w : (z = 0 ∧ (j = 4 ∨ j = 5 ∨ j = 6 ∨ j = 8 ∨ j = 9 ∨ j = 10 ∨ j = 12 ∨ j = 13)) ∨ z = 2 ∨ (3 ≤ z ∧ z < 7 ∧ j = 0) := by
    unfold cI at w2
    omega
  clear w2
  rcases w with ⟨rfl, w⟩ | rfl | ⟨w1, w2, rfl⟩
  · left
    refine ⟨rfl, ?_⟩
    rcases w with rfl | rfl | rfl | rfl | rfl | rfl | rfl | rfl
    · rw [tr_c4_ k hk] at hq; cases hq; exact Or.inl ⟨rfl, rfl⟩
    · rw [tr_c5_ k hk] at hq; cases hq; exact Or.inr (Or.inl ⟨rfl, rfl⟩)
    · rw [tr_c6_ k hk] at hq; cases hq; exact Or.inr (Or.inr (Or.inl ⟨rfl, rfl⟩))
    · rw [tr_c8_ k hk] at hq; cases hq; exact Or.inr (Or.inr (Or.inr (Or.inl ⟨rfl, rfl⟩)))
    · rw [tr_c9_ k hk] at hq; cases hq; exact Or.inr (Or.inr (Or.inr (Or.inr (Or.inl ⟨rfl, rfl⟩))))
    · rw [tr_c10_ k hk] at hq; cases hq; exact Or.inr (Or.inr (Or.inr (Or.inr (Or.inr (Or.inl ⟨rfl, rfl⟩)))))
    · rw [tr_c12_ k hk] at hq; cases hq; exact Or.inr (Or.inr (Or.inr (Or.inr (Or.inr (Or.inr (Or.inl ⟨rfl, rfl⟩))))))
    · rw [tr_c13_ k hk] at hq; cases hq; exact Or.inr (Or.inr (Or.inr (Or.inr (Or.inr (Or.inr (Or.inr ⟨rfl, rfl⟩))))))
  · rcases tr_car hk hz hq with h | h | h | h | h
    · exact absurd h.1 (by decide)
    · exact absurd h.1 (by decide)
    · exact absurd h.1 (by decide)
    · exact Or.inr (Or.inl h)
    · exact absurd rfl h.2.1
  · obtain ⟨t, rfl⟩ : ∃ t, z = 3 + t := ⟨z - 3, by omega⟩
    have ht : t < 4 := by omega
    rw [tr_ht_ k hk t ht] at hq
    cases hq
    exact Or.inr (Or.inr ⟨t, ht, rfl, rfl, rfl⟩)
theorem tr_10 {z j : Nat} {q : Nat × Nat × Int × Int} (hz : z < 10) (hq : tr (cI 10 z) j = some q) : False := by
  obtain ⟨-, w2⟩ := tr_where hq
  unfold cI at w2
  omega
theorem tr_89 {a j : Nat} {q : Nat × Nat × Int × Int} (ha : a = 9 ∨ a = 8) (hq : tr a j = some q) : (a = 9 ∧ j < 8 ∧ q = (610, j, 0, 100000)) ∨ (a = 8 ∧ j = 2 ∧ q = (600, 5, -2147483648, 2147483647)) ∨ (a = 8 ∧ j = 3 ∧ q = (600, 6, -2147483648, 2147483647)) := by
  rcases ha with rfl | rfl
  · left
    have hj : j < 8 := by
      rcases Nat.lt_or_ge j 8 with h | h
      · exact h
      · exfalso
        unfold tr at hq
        rcases if_some hq with ⟨_, h⟩ | ⟨_, hq⟩
        · cases h
        · simp only [Nat.reduceEqDiff, if_false, if_true, show ¬ j < 8 by omega] at hq
          cases hq
    rw [tr_9_ j hj] at hq
    cases hq
    exact ⟨rfl, hj, rfl⟩
  · right
    obtain ⟨-, w2⟩ := tr_where hq
    have hj : j = 2 ∨ j = 3 := by omega
    rcases hj with rfl | rfl
    · left; cases hq; exact ⟨rfl, rfl, rfl⟩
    · right; cases hq; exact ⟨rfl, rfl, rfl⟩
set_option maxHeartbeats 4000000 in
theorem R_set {i hr nc k kk kk' : Nat} {x m x' m' : Hp} (R : RInv i hr nc kk (mix x m)) (hk : k < nc ∨ k = 10)
    (eX : ∀ a b, ¬ cX k a → x' a b = x a b) (eM : ∀ a b, ¬ cN k a b → m' a b = m a b)
    (hT : ∀ a j q, tr a j = some q → ((∃ z, z < 10 ∧ a = cI k z) ∨ a = 9 ∨ a = 8) → x' a j = m' q.1 q.2.1 ∧ q.2.2.1 ≤ (m' q.1 q.2.1).toInt ∧ (m' q.1 q.2.1).toInt ≤ q.2.2.2)
    (hkk : ∀ c, c ≠ k → c < nc → (c < kk ↔ c < kk'))
    (h8 : ∀ ns, m 600 1 = nI ns → ns ≤ 8 → k < nc → carOK ns (if k < kk then hr + 1 else hr) k k (mix x m) → carOK ns (if k < kk' then hr + 1 else hr) k k (mix x' m'))
    (h10 : k < nc → ac (m' 623 k) (m' 627 k) ≤ ac (m 623 k) (m 627 k)) : RInv i hr nc kk' (mix x' m') := by
  obtain ⟨i1, ns, nr, tl, sn, a2, a3, a4, a5, a6, a7, a8, a9, a10⟩ := R
  have fX : ∀ a b, (a < 600 ∨ 700 ≤ a) → ¬ cX k a → mix x' m' a b = mix x m a b := fun a b ha h => by
    rw [mix_X ha, mix_X ha]; exact eX a b h
  have fM : ∀ a b, (600 ≤ a ∧ a < 700) → ¬ cN k a b → mix x' m' a b = mix x m a b := fun a b ha h => by
    rw [mix_M ha, mix_M ha]; exact eM a b h
  have fs : ∀ s j b, mix x' m' (sI s j) b = mix x m (sI s j) b := fun s j b => fX _ b (by unfold sI; omega) cX_s
  have fr : ∀ s j b, mix x' m' (rI s j) b = mix x m (rI s j) b := fun s j b => fX _ b (by unfold rI; omega) cX_r
  have fc : ∀ c j b, c ≠ k → c ≠ 10 → j < 10 → mix x' m' (cI c j) b = mix x m (cI c j) b := fun c j b h1 h2 h3 => fX _ b (by unfold cI; omega) (cX_c h1 h2 h3)
  have fl : ∀ a b, (600 ≤ a ∧ a < 700) → (a < 617 ∨ 635 < a) → a ≠ 610 → a ≠ 614 → a ≠ 654 → (a = 600 → b ≠ 5 ∧ b ≠ 6) → mix x' m' a b = mix x m a b := fun a b h0 h1 h2 h3 h4 h5 => fM a b h0 (cN_l h1 h2 h3 h4 h5)
  have n10 : nc ≤ 10 := a2.2.1.2
  refine ⟨fun a j q hq => ?_, ns, nr, tl, sn, ?_, I3_c (fun a b hd => ?_) a3, I4_c (fun a b hd => ?_) a4, I5_c (fun a b hd => ?_) a5, I6_c (fun a b hd => ?_) a6, I7_c (fun a b hd => ?_) a7, ?_, ?_, ?_⟩
  · obtain ⟨t1, t2, t3⟩ := tr_ok hq
    by_cases hz : (∃ z, z < 10 ∧ a = cI k z) ∨ a = 9 ∨ a = 8
    · have := hT a j q hq hz
      rw [mix_X t3, mix_M t2, this.1]
      exact ⟨rfl, this.2⟩
    · obtain ⟨z1, z2⟩ := tr_away hq hz
      rw [fX a j t3 z1, fM q.1 q.2.1 t2 z2]
      exact i1 a j q hq
  · obtain ⟨⟨b1, b2, b3⟩, b4, b5, b6, b9, b10⟩ := a2
    refine ⟨⟨?_, b2, b3⟩, ?_, ?_, ?_, ?_, ?_⟩
    · rw [fl 600 1 (by decide) (by decide) (by decide) (by decide) (by decide) (by decide)]; exact b1
    · rw [fl 600 2 (by decide) (by decide) (by decide) (by decide) (by decide) (by decide)]; exact b4
    · rw [fl 600 3 (by decide) (by decide) (by decide) (by decide) (by decide) (by decide)]; exact b5
    · rw [fl 600 0 (by decide) (by decide) (by decide) (by decide) (by decide) (by decide)]; exact b6
    · rw [fl 600 4 (by decide) (by decide) (by decide) (by decide) (by decide) (by decide)]; exact b9
    · rw [fl 600 38 (by decide) (by decide) (by decide) (by decide) (by decide) (by decide)]; exact b10
  · rcases hd with rfl | ⟨s, rfl, rfl⟩
    · exact fl _ _ (by decide) (by decide) (by decide) (by decide) (by decide) (by omega)
    · exact fs s 0 7
  · rcases hd with ⟨s, rfl | rfl⟩
    · exact fs _ _ _
    · exact fs _ _ _
  · rcases hd with rfl | rfl | ⟨s, rfl | rfl⟩
    · exact fl _ _ (by decide) (by decide) (by decide) (by decide) (by decide) (by omega)
    · exact fl _ _ (by decide) (by decide) (by decide) (by decide) (by decide) (by omega)
    · exact fs _ _ _
    · exact fs _ _ _
  · rcases hd with ⟨rfl, rfl⟩ | rfl | rfl
    · exact fl _ _ (by decide) (by decide) (by decide) (by decide) (by decide) (by omega)
    · exact fX _ _ (by decide) (cX_l (by decide) (by decide) (by decide))
    · exact fl _ _ (by decide) (by decide) (by decide) (by decide) (by decide) (by omega)
  · rcases hd with hd | ⟨r, j, rfl⟩
    · clear h10 hT h8 eX eM
      exact fl a b (by omega) (by omega) (by omega) (by omega) (by omega) (by omega)
    · exact fr _ _ _
  · intro c hc2
    by_cases hck : c = k
    · subst hck
      exact h8 ns (by have := a2.1.1; rw [mix_600] at this; exact this) a2.1.2.2 hc2 (a8 c hc2)
    · have c10 : c ≠ 10 := by omega
      have q := a8 c hc2
      simp only [hkk c hck hc2] at q
      clear h10 hT h8 eX eM
      exact carOK_c (fun b hb => fc c 0 b hck c10 (by decide)) (fun t b ht h1 h2 => fc c (3 + t) b hck c10 (by omega)) (fun a ha => fM a c (by omega) (cN_i (by omega) hck c10)) (fun a t ht h1 h2 => fM a (4 * c + t) (by omega) (cN_t (by omega) hck c10 ht)) q
  · intro c h1 h2
    have hck : c ≠ k := by omega
    have c10 : c ≠ 10 := by omega
    obtain ⟨b1, b2⟩ := a9 c h1 h2
    refine ⟨?_, fun t ht => ?_⟩
    · rw [fc c 0 2 hck c10 (by decide), fc c 0 7 hck c10 (by decide), fc c 0 11 hck c10 (by decide), fM 626 c (by decide) (cN_i (by decide) hck c10), fM 622 c (by decide) (cN_i (by decide) hck c10), fM 624 c (by decide) (cN_i (by decide) hck c10), fM 627 c (by decide) (cN_i (by decide) hck c10)]
      exact b1
    · rw [fc c (3 + t) 1 hck c10 (by omega), fc c (3 + t) 2 hck c10 (by omega), fc c (3 + t) 3 hck c10 (by omega), fM 635 (4 * c + t) (by decide) (cN_t (by decide) hck c10 ht)]
      exact b2 t ht
  · unfold I10 at a10 ⊢
    rw [mix_623, mix_627] at a10 ⊢
    have g : ∀ c, c < nc → c ≠ k → m' 623 c = m 623 c ∧ m' 627 c = m 627 c := fun c hc hne => by
      have c10 : c ≠ 10 := by omega
      have g1 := fM 623 c (by decide) (cN_i (by decide) hne c10)
      have g2 := fM 627 c (by decide) (cN_i (by decide) hne c10)
      rw [mix_623, mix_623] at g1
      rw [mix_627, mix_627] at g2
      exact ⟨g1, g2⟩
    by_cases hkn : k < nc
    · have A := act_one (e := m 623) (f := m 627) (e' := fun c => if c < nc then m' 623 c else m 623 c) (f' := fun c => if c < nc then m' 627 c else m 627 c) hkn (fun c hc2 => by
        by_cases hl : c < nc
        · simp only [hl, if_true]
          exact g c hl hc2
        · simp only [hl, if_false, and_self])
      have B := act_congr (e := m' 623) (f := m' 627) (e' := fun c => if c < nc then m' 623 c else m 623 c) (f' := fun c => if c < nc then m' 627 c else m 627 c) (n := nc) (fun c hl => by simp only [hl, if_true, and_self])
      rw [B] at A
      simp only [hkn, if_true] at A
      have := h10 hkn
      omega
    · rw [act_congr (e := m 623) (f := m 627) (fun c hc => g c hc (by omega))]
      exact a10
