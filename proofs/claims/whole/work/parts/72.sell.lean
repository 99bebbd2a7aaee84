/-! ===== sell ===== -/
def slX (p k q a b : Nat) : Prop := ((a = sI p 3 ∨ a = sI p 4) ∧ b = q) ∨ (∃ t, t < 4 ∧ a = cI k (3 + t) ∧ 1 ≤ b ∧ b ≤ 3) ∨ (a = cI k 0 ∧ b = 12) ∨ (a = 0 ∧ (b = 15 ∨ b = 16))
def slM (k sn a b : Nat) : Prop := ((a = 636 ∨ a = 637) ∧ b = sn) ∨ (a = 631 ∧ 4 * k ≤ b ∧ b < 4 * k + 4) ∨ (a = 627 ∧ b = k) ∨ (a = 600 ∧ (b = 38 ∨ b = 7 ∨ b = 8))
set_option maxHeartbeats 4000000 in
theorem sell_inv {i ns nc nr hr tl sn k p : Nat} {x m x' m' : Hp} (i1 : I1 (mix x m)) (JJ : J i ns nc nr hr tl sn (mix x m)) (hi : i < 512) (hk : k < nc) (hp : p < 8) (hc : m 627 k = 1)
    (fX : ∀ a b, ¬ slX p k (hr % 24) a b → x' a b = x a b) (fM : ∀ a b, ¬ slM k sn a b → m' a b = m a b)
    (v1 : x' (sI p 3) (hr % 24) = nI hr) (v2 : x' (sI p 4) (hr % 24) = (if x (sI p 3) (hr % 24) = nI hr then x (sI p 4) (hr % 24) else 0) + 1)
    (v3 : ∀ t, t < 4 → x' (cI k (3 + t)) 1 = -1 ∧ x' (cI k (3 + t)) 2 = 0 ∧ x' (cI k (3 + t)) 3 = 0 ∧ m' 631 (4 * k + t) = -1)
    (v4 : x' (cI k 0) 12 = 0 ∧ m' 627 k = 0) (v5 : x' 0 15 = m' 600 7 ∧ x' 0 16 = m' 600 8) (v6 : m' 636 sn = nI p ∧ m' 637 sn = nI hr ∧ m' 600 38 = nI (sn + 1)) : Inv (i + 1) (mix x' m') := by
  obtain ⟨⟨b1, ⟨b2, b2'⟩, b3, ⟨b4, b5, b6⟩, b7, b8⟩, a3, a4, a5, a6, a7, a8, a9, a10⟩ := JJ
  have k10 : k < 10 := by omega
  have hrb : hr ≤ 102400 := by omega
  have eX : ∀ a b, (a < 600 ∨ 700 ≤ a) → ¬ slX p k (hr % 24) a b → mix x' m' a b = mix x m a b := fun a b ha h => by rw [mix_X ha, mix_X ha]; exact fX a b h
  have eM : ∀ a b, (600 ≤ a ∧ a < 700) → ¬ slM k sn a b → mix x' m' a b = mix x m a b := fun a b ha h => by rw [mix_M ha, mix_M ha]; exact fM a b h
  have sl_c : ∀ c z b, c ≠ k → z < 10 → ¬ slX p k (hr % 24) (cI c z) b := by
    intro c z b h1 h2 h
    rcases h with h | ⟨t, h⟩ | h | h <;> (try unfold sI at h) <;> unfold cI at h <;> omega
  have sl_r : ∀ r j b, ¬ slX p k (hr % 24) (rI r j) b := by
    intro r j b h
    rcases h with h | ⟨t, h⟩ | h | h <;> (try unfold sI at h) <;> (try unfold cI at h) <;> unfold rI at h <;> omega
  have sl_s : ∀ s j b, j < 10 → j ≠ 3 → j ≠ 4 → ¬ slX p k (hr % 24) (sI s j) b := by
    intro s j b h1 h2 h3 h
    rcases h with h | ⟨t, h⟩ | h | h <;> (try unfold cI at h) <;> unfold sI at h <;> omega
  have sl_s' : ∀ s j b, j < 10 → ¬ (s = p ∧ b = hr % 24) → ¬ slX p k (hr % 24) (sI s j) b := by
    intro s j b h1 h2 h
    rcases h with h | ⟨t, h⟩ | h | h <;> (try unfold cI at h) <;> unfold sI at h <;> omega
  have sl_k0 : ∀ b, b ≠ 12 → ¬ slX p k (hr % 24) (cI k 0) b := by
    intro b h1 h
    rcases h with h | ⟨t, h⟩ | h | h <;> (try unfold sI at h) <;> unfold cI at h <;> omega
  have sl_kt : ∀ t b, t < 4 → ¬ (1 ≤ b ∧ b ≤ 3) → ¬ slX p k (hr % 24) (cI k (3 + t)) b := by
    intro t b ht h1 h
    rcases h with h | ⟨t', h⟩ | h | h <;> (try unfold sI at h) <;> unfold cI at h <;> omega
  have sl_l : ∀ a b, a < 600 → a ≠ 0 → ¬ slX p k (hr % 24) a b := by
    intro a b h1 h2 h
    rcases h with h | ⟨t', h⟩ | h | h <;> (try unfold sI at h) <;> (try unfold cI at h) <;> omega
  refine ⟨fun a j q hq => ?_, ns, nc, nr, hr, tl, sn + 1, ⟨?_, ⟨?_, b2'⟩, ?_, ⟨?_, by omega, by omega⟩, ?_, ?_⟩, I3_c (fun a b hd => ?_) a3, I4_c (fun a b hd => ?_) a4, ?_, I6_c (fun a b hd => ?_) a6, I7_c (fun a b hd => ?_) a7, ?_, ?_, ?_⟩
  · obtain ⟨t1, t2, t3⟩ := tr_ok hq
    have T := i1 a j q hq
    rw [mix_X t3, mix_M t2]
    rw [mix_X t3, mix_M t2] at T
    by_cases z1 : a = cI k 0 ∧ j = 12
    · obtain ⟨rfl, rfl⟩ := z1
      rw [tr_c12_ k k10] at hq
      cases hq
      dsimp only
      rw [v4.1, v4.2]
      decide
    by_cases z2 : a = 0 ∧ j = 15
    · obtain ⟨rfl, rfl⟩ := z2
      cases hq
      exact ⟨v5.1, i_lo _, i_hi _⟩
    by_cases z3 : a = 0 ∧ j = 16
    · obtain ⟨rfl, rfl⟩ := z3
      cases hq
      exact ⟨v5.2, i_lo _, i_hi _⟩
    obtain ⟨w1, w2⟩ := tr_where hq
    have u1 : ¬ slX p k (hr % 24) a j := by
      intro h
      rcases h with h | ⟨t, h⟩ | h | h
      · clear w1; unfold sI at h; omega
      · clear w1; unfold cI at h; omega
      · exact z1 h
      · rcases h with ⟨h, h' | h'⟩
        · exact z2 ⟨h, h'⟩
        · exact z3 ⟨h, h'⟩
    have u2 : ¬ slM k sn q.1 q.2.1 := by
      intro h
      clear w2
      have h' : (q.1 = 627 ∧ q.2.1 = k) ∨ (q.1 = 600 ∧ (q.2.1 = 7 ∨ q.2.1 = 8)) := by unfold slM at h; omega
      clear h w1
      rcases h' with h | ⟨h, h' | h'⟩
      · rw [h.1, h.2] at t1
        simp only [ti, Nat.reduceEqDiff, if_true, if_false, Prod.mk.injEq] at t1
        exact z1 ⟨by unfold cI; omega, t1.2.symm⟩
      · rw [h, h'] at t1
        simp only [ti, Nat.reduceEqDiff, if_true, if_false, Prod.mk.injEq] at t1
        exact z2 ⟨t1.1.symm, t1.2.symm⟩
      · rw [h, h'] at t1
        simp only [ti, Nat.reduceEqDiff, if_true, if_false, Prod.mk.injEq] at t1
        exact z3 ⟨t1.1.symm, t1.2.symm⟩
    rw [fX a j u1, fM _ _ u2]
    exact T
  · rw [eM 600 1 (by decide) (by unfold slM; omega)]; exact b1
  · rw [eM 600 2 (by decide) (by unfold slM; omega)]; exact b2
  · rw [eM 600 3 (by decide) (by unfold slM; omega)]; exact b3
  · rw [eM 600 0 (by decide) (by unfold slM; omega)]; exact b4
  · rw [eM 600 4 (by decide) (by unfold slM; omega)]; exact b7
  · rw [mix_600]; exact v6.2.2
  · rcases hd with rfl | ⟨s, rfl, rfl⟩
    · exact eM _ _ (by decide) (by unfold slM; omega)
    · exact eX _ _ (by unfold sI; omega) (sl_s s 0 7 (by decide) (by decide) (by decide))
  · rcases hd with ⟨s, rfl | rfl⟩
    · exact eX _ _ (by unfold sI; omega) (sl_s s 1 b (by decide) (by decide) (by decide))
    · exact eX _ _ (by unfold sI; omega) (sl_s s 2 b (by decide) (by decide) (by decide))
  · obtain ⟨A, B⟩ := a5
    simp only [mix_sI, mix_636, mix_637] at A B
    have o36 : ∀ j, j < sn → m' 636 j = m 636 j ∧ m' 637 j = m 637 j := fun j hj => ⟨fM _ _ (by unfold slM; omega), fM _ _ (by unfold slM; omega)⟩
    have C : ∀ s y, cnt (m' 636) (m' 637) s y (sn + 1) = cnt (m 636) (m 637) s y sn + (if nI p = nI s ∧ nI hr = nI y then 1 else 0) := fun s y => by
      rw [cnt, cnt_congr o36, v6.1, v6.2.1]
    refine ⟨fun j hj => ?_, fun s hs q hq => ?_⟩
    · simp only [mix_sI, mix_636, mix_637]
      by_cases z : j = sn
      · subst z
        exact ⟨p, hr, hp, Nat.le_refl _, v6.1, v6.2.1, fun _ => v1⟩
      · obtain ⟨s, y, g1, g2, g3, g4, g5⟩ := A j (by omega)
        refine ⟨s, y, g1, g2, by rw [(o36 j (by omega)).1]; exact g3, by rw [(o36 j (by omega)).2]; exact g4, fun h => ?_⟩
        by_cases w : s = p ∧ y % 24 = hr % 24
        · have : y = hr := by omega
          rw [w.1, this]
          exact v1
        · rw [fX _ _ (sl_s' s 3 _ (by decide) w)]
          exact g5 h
    · simp only [mix_sI, mix_636, mix_637]
      by_cases w : s = p ∧ q = hr % 24
      · obtain ⟨rfl, rfl⟩ := w
        obtain ⟨y, g1, g2, g3⟩ := B s hs (hr % 24) hq
        refine ⟨hr, Nat.le_refl _, v1, ?_⟩
        rw [v2, if_pos (c := hr % 24 = hr % 24) rfl, C, if_pos (c := nI s = nI s ∧ nI hr = nI hr) ⟨rfl, rfl⟩]
        by_cases e : y = hr
        · subst e
          rw [if_pos rfl] at g3
          rw [if_pos g2, g3, nI_1]
        · have ne : ¬ x (sI s 3) (hr % 24) = nI hr := fun h => e ((nI_eq (by omega) (by omega)).mp (g2.symm.trans h))
          rw [if_neg ne, cnt_zero]
          · rfl
          · intro j hj h
            obtain ⟨s', y', h1, h2, h3, h4, h5⟩ := A j hj
            have es : s' = s := nI_inj (by omega) (by omega) (h3.symm.trans h.1)
            have ey : y' = hr := (nI_eq (by omega) (by omega)).mp (h4.symm.trans h.2)
            subst es ey
            exact ne (h5 (by omega))
      · obtain ⟨y, g1, g2, g3⟩ := B s hs q hq
        refine ⟨y, g1, by rw [fX _ _ (sl_s' s 3 _ (by decide) w)]; exact g2, ?_⟩
        rw [fX _ _ (sl_s' s 4 _ (by decide) w), g3, C]
        by_cases e : y % 24 = q
        · rw [if_pos e, if_pos e, if_neg, Nat.add_zero]
          intro h
          have es : p = s := nI_inj (by omega) (by omega) h.1
          have ey : hr = y := (nI_eq (by omega) (by omega)).mp h.2
          exact w ⟨es.symm, by omega⟩
        · rw [if_neg e, if_neg e]
  · rcases hd with ⟨rfl, rfl⟩ | rfl | rfl
    · exact eM _ _ (by decide) (by unfold slM; omega)
    · exact eX _ _ (by decide) (sl_l _ _ (by decide) (by decide))
    · exact eM _ _ (by decide) (by unfold slM; omega)
  · rcases hd with hd | ⟨r, j, rfl⟩
    · exact eM _ _ (by omega) (by unfold slM; omega)
    · exact eX _ _ (by unfold rI; omega) (sl_r r j b)
  · intro c hc2
    by_cases hck : c = k
    · subst hck
      have M0 : ∀ (y z : Hp) a j, 600 ≤ a ∧ a < 700 → mix y z a j = z a j := fun y z a j h => by rw [mix_M h]
      obtain ⟨d1, d2, d3, d4, d5, d6⟩ := a8 c hc2
      refine ⟨?_, ?_, ?_, ?_, ?_, fun t ht => ?_⟩
      · rw [eX _ _ (by unfold cI; omega) (sl_k0 2 (by decide))]; exact d1
      · rw [eX _ _ (by unfold cI; omega) (sl_k0 3 (by decide)), eM 617 _ (by decide) (by unfold slM; omega)]; exact d2
      · rw [eX _ _ (by unfold cI; omega) (sl_k0 7 (by decide)), eM 623 _ (by decide) (by unfold slM; omega)]; exact d3
      · rw [eX _ _ (by unfold cI; omega) (sl_k0 11 (by decide)), eM 626 _ (by decide) (by unfold slM; omega)]; exact d4
      · rw [eM 620 _ (by decide) (by unfold slM; omega), eM 621 _ (by decide) (by unfold slM; omega), eM 622 _ (by decide) (by unfold slM; omega), eM 623 _ (by decide) (by unfold slM; omega), eM 624 _ (by decide) (by unfold slM; omega)]; exact d5
      · obtain ⟨u1, u2, u3, u4⟩ := v3 t ht
        obtain ⟨-, l, hl, e5, -⟩ := d6 t ht
        unfold tierOK
        rw [mix_cI, M0 _ _ 631 _ (by decide), u1, u4, u2, u3]
        refine ⟨rfl, l, hl, ?_, Or.inl ⟨rfl, rfl, rfl⟩⟩
        rw [eM 635 _ (by decide) (by unfold slM; omega)]
        exact e5
    · exact carOK_c (fun b hb => eX _ _ (by unfold cI; omega) (sl_c c 0 b hck (by decide))) (fun t b ht h1 h2 => eX _ _ (by unfold cI; omega) (sl_c c (3 + t) b hck (by omega))) (fun a ha => eM a c (by omega) (by unfold slM; omega)) (fun a t ht h1 h2 => eM a (4 * c + t) (by omega) (by unfold slM; omega)) (a8 c hc2)
  · intro c h1 h2
    have hck : c ≠ k := by omega
    obtain ⟨g1, g2⟩ := a9 c h1 h2
    have y0 : ∀ b, mix x' m' (cI c 0) b = mix x m (cI c 0) b := fun b => eX _ _ (by unfold cI; omega) (sl_c c 0 b hck (by decide))
    refine ⟨?_, fun t ht => ?_⟩
    · rw [y0, y0, y0, eM 626 _ (by decide) (by unfold slM; omega), eM 622 _ (by decide) (by unfold slM; omega), eM 624 _ (by decide) (by unfold slM; omega), eM 627 _ (by decide) (by unfold slM; omega)]
      exact g1
    · have yt : ∀ b, mix x' m' (cI c (3 + t)) b = mix x m (cI c (3 + t)) b := fun b => eX _ _ (by unfold cI; omega) (sl_c c (3 + t) b hck (by omega))
      rw [yt, yt, yt, eM 635 _ (by decide) (by unfold slM; omega)]
      exact g2 t ht
  · unfold I10 at a10 ⊢
    rw [mix_623, mix_627] at a10 ⊢
    have g : ∀ c, c ≠ k → m' 623 c = m 623 c ∧ m' 627 c = m 627 c := fun c hne => ⟨fM _ _ (by unfold slM; omega), fM _ _ (by unfold slM; omega)⟩
    have A := act_one (e := m 623) (f := m 627) (e' := m' 623) (f' := m' 627) hk g
    unfold ac at A
    rw [v4.2, hc, fM 623 k (by unfold slM; omega), if_neg (show ¬ (0 : Int32) = 1 by decide), if_pos rfl] at A
    omega
set_option maxHeartbeats 4000000 in
theorem S_sell (s : Int32) : Sim2 77 132 [.ref 0, .int s, .null, .null, .null] [.ref 600, .int s, .null, .null] := by
  intro i x m hi I
  obtain ⟨nc, n1, e1, e2⟩ := two_nc I
  have nsB : nc < 100000 := by omega
  rcases ix3 s nc (by omega) with ⟨k, hk, rfl⟩ | g | ⟨g, g'⟩
  · have k1 : k < 100000 := by omega
    have k11 : k < 11 := by omega
    have k10 : k < 10 := by omega
    obtain ⟨ns, nc', nr, hr, tl, sn, i1, J2⟩ := J_open I
    have enc : nc' = nc := nI_inj (by have := J2.1.2.1.2; omega) (by omega) (by have := J2.1.2.1.1; rw [mix_600] at this; rw [← this, e2])
    subst enc
    have hrb : hr ≤ 102400 := by have := J2.1.2.2.2.1; omega
    have hr0 : m 600 0 = nI hr := by have := J2.1.2.2.2.1.1; rw [mix_600] at this; exact this
    have x14 : x 0 14 = nI hr := ((tr2 i1 (k := 0) (j := 14) rfl).1).trans hr0
    have e38 : m 600 38 = nI sn := by have := J2.1.2.2.2.2.2; rw [mix_600] at this; exact this
    have n8 : ns ≤ 8 := J2.1.1.2.2
    obtain ⟨p, hp, q20, -⟩ := (J2.2.2.2.2.2.2.1 k hk).2.2.2.2.1
    rw [mix_620] at q20
    have p1 : p < 100000 := by omega
    have p8 : p < 8 := by omega
    have t6 := (tr2 i1 (tr_c6_ k k10)).1
    have t12 := tr2 i1 (tr_c12_ k k10)
    have t5 := tr2 i1 (tr_s5_ p p8)
    dsimp only at t6 t12 t5
    have c01 := i01 t12.2.1 t12.2.2
    by_cases z : m 627 k = 0
    · refine ⟨-7, hu x 16 7 (x 16 7 + 1), hu m 650 7 (m 650 7 + 1), ?_, ?_, Inv_mono (mix_ref I 7 (by decide)) hi⟩
      · simp only [x_77_0, x_77_1, x_77_2, x_77_5, x_77_8, x_77_9, x_77_11, x_77_14, x_77_15, x_77_16, x_77_19, x_77_20, x_77_21, x_77_22, x_77_23, x_77_26, x_77_27, x_77_30, x_77_31, x_77_32, x_77_33, x_77_36, x_77_39, x_77_40, x_77_43, x_77_46, x_77_47, x_77_49, x_77_52, gI_s, gA_s, gN_s, gC_s, gC_n, or_true, true_or, or_false, false_or, or_self, ldI_z, ldI_s, ldA_z, ldA_s, Option.bind_some, Option.bind_none, List.set_cons_zero, List.set_cons_succ, List.length_nil, List.length_cons, Option.toList_some, Option.toList_none, List.cons_append, List.nil_append, Nat.reduceAdd, Nat.reduceSub, Nat.reduceMul, Nat.reduceLeDiff, Nat.reduceLT, Nat.reduceEqDiff, and_self, true_and, and_true, false_and, and_false, if_true, if_false, ↓reduceIte, ite_true, ite_false, Nat.zero_add, Nat.add_zero, Int32.reduceToNatClampNeg, Int32.reduceLE, Int32.reduceLT, Int32.reduceAdd, Int32.neg_neg, l_00, l_m10, l_e0_1, l_e0_2, l_e0_3, l_e0_4, l_e0_5, l_e0_6, l_e0_7, l_e0_8, l_e1_0, l_e1_2, l_e1_3, l_e1_4, l_e1_5, l_e1_6, l_e1_7, l_e1_8, l_e2_0, l_e2_1, l_e2_3, l_e2_4, l_e2_5, l_e2_6, l_e2_7, l_e2_8, l_e3_0, l_e3_1, l_e3_2, l_e3_4, l_e3_5, l_e3_6, l_e3_7, l_e3_8, l_e4_0, l_e4_1, l_e4_2, l_e4_3, l_e4_5, l_e4_6, l_e4_7, l_e4_8, l_e5_0, l_e5_1, l_e5_2, l_e5_3, l_e5_4, l_e5_6, l_e5_7, l_e5_8, l_e6_0, l_e6_1, l_e6_2, l_e6_3, l_e6_4, l_e6_5, l_e6_7, l_e6_8, l_e7_0, l_e7_1, l_e7_2, l_e7_3, l_e7_4, l_e7_5, l_e7_6, l_e7_8, l_e8_0, l_e8_1, l_e8_2, l_e8_3, l_e8_4, l_e8_5, l_e8_6, l_e8_7, eq_self, Int32.reduceSub, kd_0, kd_1, kd_2, kd_3, kd_4, kd_5, kd_6, kd_7, kd_8, kd_9, kd_10, kd_11, kd_12, kd_13, kd_14, kd_15, kd_16, kd_sI0, kd_sI1, kd_sI2, kd_sI3, kd_sI4, kd_cI0, kd_cI1, kd_cI2, kd_cI3, kd_cI4, kd_cI5, kd_cI6, kd_rI0, kd_rI1, kd_rI2, kd_rI3, kd_tr, ln_1, ln_2, ln_3, ln_5, ln_7, ln_9, ln_10, ln_12, ln_13, ln_14, ln_15, ln_16, ln_sI1, ln_sI2, ln_sI3, ln_sI4, ln_cI1, ln_cI2, ln_rI1, ln_rI2, ln_rI3, rf_1, rf_2, rf_3, rf_ct, vl_0_0, vl_0_1, vl_0_2, vl_0_3, vl_0_4, vl_0_5, vl_0_6, vl_0_7, vl_0_8, vl_0_9, vl_0_10, vl_0_11, vl_0_12, vl_0_13, vl_0_14, vl_0_15, vl_0_16, vl_4_0, vl_4_1, vl_4_2, vl_6_0, vl_6_1, vl_8_0, vl_8_1, vl_8_2, vl_8_3, vl_11_0, vl_11_1, vl_11_2, vl_11_3, vl_sI_0, vl_sI_1, vl_sI_2, vl_sI_3, vl_sI_4, vl_sI_5, vl_sI_6, vl_sI_7, vl_cI_0, vl_cI_1, vl_cI_2, vl_cI_3, vl_cI_4, vl_cI_5, vl_cI_6, vl_cI_7, vl_cI_8, vl_cI_9, vl_cI_10, vl_cI_11, vl_cI_12, vl_cI_13, vl_rI_0, vl_rI_1, vl_rI_2, vl_rI_3, vl_rI_4, vl_rI_5, vl_rI_6, vl_rI_7, vl_tr_0, vl_tr0_0, vl_tr1_0, vl_tr2_0, vl_tr3_0, vl_tr_1, vl_tr0_1, vl_tr1_1, vl_tr2_1, vl_tr3_1, vl_tr_2, vl_tr0_2, vl_tr1_2, vl_tr2_2, vl_tr3_2, vl_tr_3, vl_tr0_3, vl_tr1_3, vl_tr2_3, vl_tr3_3, vl_tr_4, vl_tr0_4, vl_tr1_4, vl_tr2_4, vl_tr3_4, vl_tr_5, vl_tr0_5, vl_tr1_5, vl_tr2_5, vl_tr3_5, X_isC, bi_0, not_and, Classical.not_not, not_true_eq_false, not_false_eq_true, forall_const, false_implies, true_implies, implies_true, e1, nIn k1, nIl hk nsB, nIc k1, nIg k1, k10, k11, t6, q20, nIc p1, nIg p1, p8, t12.1, z, X_refuse_7]
      · simp only [x_132_0, x_132_1, x_132_2, x_132_5, x_132_8, x_132_9, x_132_11, x_132_14, x_132_15, x_132_16, x_132_19, x_132_20, x_132_21, x_132_24, x_132_25, x_132_28, x_132_29, x_132_32, x_132_33, x_132_34, x_132_35, x_132_38, x_132_39, x_132_41, x_132_44, gI_s, gA_s, gN_s, gC_s, gC_n, or_true, true_or, or_false, false_or, or_self, ldI_z, ldI_s, ldA_z, ldA_s, Option.bind_some, Option.bind_none, List.set_cons_zero, List.set_cons_succ, List.length_nil, List.length_cons, Option.toList_some, Option.toList_none, List.cons_append, List.nil_append, Nat.reduceAdd, Nat.reduceSub, Nat.reduceMul, Nat.reduceLeDiff, Nat.reduceLT, Nat.reduceEqDiff, and_self, true_and, and_true, false_and, and_false, if_true, if_false, ↓reduceIte, ite_true, ite_false, Nat.zero_add, Nat.add_zero, Int32.reduceToNatClampNeg, Int32.reduceLE, Int32.reduceLT, Int32.reduceAdd, Int32.neg_neg, l_00, l_m10, l_e0_1, l_e0_2, l_e0_3, l_e0_4, l_e0_5, l_e0_6, l_e0_7, l_e0_8, l_e1_0, l_e1_2, l_e1_3, l_e1_4, l_e1_5, l_e1_6, l_e1_7, l_e1_8, l_e2_0, l_e2_1, l_e2_3, l_e2_4, l_e2_5, l_e2_6, l_e2_7, l_e2_8, l_e3_0, l_e3_1, l_e3_2, l_e3_4, l_e3_5, l_e3_6, l_e3_7, l_e3_8, l_e4_0, l_e4_1, l_e4_2, l_e4_3, l_e4_5, l_e4_6, l_e4_7, l_e4_8, l_e5_0, l_e5_1, l_e5_2, l_e5_3, l_e5_4, l_e5_6, l_e5_7, l_e5_8, l_e6_0, l_e6_1, l_e6_2, l_e6_3, l_e6_4, l_e6_5, l_e6_7, l_e6_8, l_e7_0, l_e7_1, l_e7_2, l_e7_3, l_e7_4, l_e7_5, l_e7_6, l_e7_8, l_e8_0, l_e8_1, l_e8_2, l_e8_3, l_e8_4, l_e8_5, l_e8_6, l_e8_7, eq_self, Int32.reduceSub, kd_600, kd_609, kd_610, kd_611, kd_612, kd_613, kd_614, kd_615, kd_616, kd_617, kd_618, kd_619, kd_620, kd_621, kd_622, kd_623, kd_624, kd_625, kd_626, kd_627, kd_628, kd_629, kd_630, kd_631, kd_632, kd_633, kd_634, kd_635, kd_636, kd_637, kd_639, kd_640, kd_641, kd_642, kd_643, kd_644, kd_645, kd_646, kd_647, kd_648, kd_649, kd_650, kd_654, ln_609, ln_610, ln_611, ln_612, ln_613, ln_614, ln_615, ln_616, ln_617, ln_618, ln_619, ln_620, ln_621, ln_622, ln_623, ln_624, ln_625, ln_626, ln_627, ln_628, ln_629, ln_630, ln_631, ln_632, ln_633, ln_634, ln_635, ln_636, ln_637, ln_639, ln_640, ln_641, ln_642, ln_643, ln_644, ln_645, ln_646, ln_647, ln_648, ln_649, ln_650, ln_654, vl_600_0, vl_600_1, vl_600_2, vl_600_3, vl_600_4, vl_600_5, vl_600_6, vl_600_7, vl_600_8, vl_600_9, vl_600_10, vl_600_11, vl_600_12, vl_600_13, vl_600_14, vl_600_15, vl_600_16, vl_600_17, vl_600_18, vl_600_19, vl_600_20, vl_600_21, vl_600_22, vl_600_23, vl_600_24, vl_600_25, vl_600_26, vl_600_27, vl_600_28, vl_600_29, vl_600_30, vl_600_31, vl_600_32, vl_600_33, vl_600_34, vl_600_35, vl_600_36, vl_600_37, vl_600_38, vl_600_39, vl_600_40, vl_600_41, vl_600_42, vl_600_43, vl_600_44, vl_600_45, vl_600_46, vl_600_47, vl_600_48, vl_600_49, vl_600_50, vl_600_51, vl_600_52, vl_600_53, vl_600_54, M_isC, bi_0, not_and, Classical.not_not, not_true_eq_false, not_false_eq_true, forall_const, false_implies, true_implies, implies_true, e2, nIn k1, nIl hk nsB, nIc k1, nIg k1, k11, z, M_refuse_7]
    by_cases y : m 612 p = 0
    · refine ⟨-7, hu x 16 7 (x 16 7 + 1), hu m 650 7 (m 650 7 + 1), ?_, ?_, Inv_mono (mix_ref I 7 (by decide)) hi⟩
      · simp only [x_77_0, x_77_1, x_77_2, x_77_5, x_77_8, x_77_9, x_77_11, x_77_14, x_77_15, x_77_16, x_77_19, x_77_20, x_77_21, x_77_22, x_77_23, x_77_26, x_77_27, x_77_30, x_77_31, x_77_32, x_77_33, x_77_36, x_77_39, x_77_40, x_77_43, x_77_46, x_77_47, x_77_49, x_77_52, gI_s, gA_s, gN_s, gC_s, gC_n, or_true, true_or, or_false, false_or, or_self, ldI_z, ldI_s, ldA_z, ldA_s, Option.bind_some, Option.bind_none, List.set_cons_zero, List.set_cons_succ, List.length_nil, List.length_cons, Option.toList_some, Option.toList_none, List.cons_append, List.nil_append, Nat.reduceAdd, Nat.reduceSub, Nat.reduceMul, Nat.reduceLeDiff, Nat.reduceLT, Nat.reduceEqDiff, and_self, true_and, and_true, false_and, and_false, if_true, if_false, ↓reduceIte, ite_true, ite_false, Nat.zero_add, Nat.add_zero, Int32.reduceToNatClampNeg, Int32.reduceLE, Int32.reduceLT, Int32.reduceAdd, Int32.neg_neg, l_00, l_m10, l_e0_1, l_e0_2, l_e0_3, l_e0_4, l_e0_5, l_e0_6, l_e0_7, l_e0_8, l_e1_0, l_e1_2, l_e1_3, l_e1_4, l_e1_5, l_e1_6, l_e1_7, l_e1_8, l_e2_0, l_e2_1, l_e2_3, l_e2_4, l_e2_5, l_e2_6, l_e2_7, l_e2_8, l_e3_0, l_e3_1, l_e3_2, l_e3_4, l_e3_5, l_e3_6, l_e3_7, l_e3_8, l_e4_0, l_e4_1, l_e4_2, l_e4_3, l_e4_5, l_e4_6, l_e4_7, l_e4_8, l_e5_0, l_e5_1, l_e5_2, l_e5_3, l_e5_4, l_e5_6, l_e5_7, l_e5_8, l_e6_0, l_e6_1, l_e6_2, l_e6_3, l_e6_4, l_e6_5, l_e6_7, l_e6_8, l_e7_0, l_e7_1, l_e7_2, l_e7_3, l_e7_4, l_e7_5, l_e7_6, l_e7_8, l_e8_0, l_e8_1, l_e8_2, l_e8_3, l_e8_4, l_e8_5, l_e8_6, l_e8_7, eq_self, Int32.reduceSub, kd_0, kd_1, kd_2, kd_3, kd_4, kd_5, kd_6, kd_7, kd_8, kd_9, kd_10, kd_11, kd_12, kd_13, kd_14, kd_15, kd_16, kd_sI0, kd_sI1, kd_sI2, kd_sI3, kd_sI4, kd_cI0, kd_cI1, kd_cI2, kd_cI3, kd_cI4, kd_cI5, kd_cI6, kd_rI0, kd_rI1, kd_rI2, kd_rI3, kd_tr, ln_1, ln_2, ln_3, ln_5, ln_7, ln_9, ln_10, ln_12, ln_13, ln_14, ln_15, ln_16, ln_sI1, ln_sI2, ln_sI3, ln_sI4, ln_cI1, ln_cI2, ln_rI1, ln_rI2, ln_rI3, rf_1, rf_2, rf_3, rf_ct, vl_0_0, vl_0_1, vl_0_2, vl_0_3, vl_0_4, vl_0_5, vl_0_6, vl_0_7, vl_0_8, vl_0_9, vl_0_10, vl_0_11, vl_0_12, vl_0_13, vl_0_14, vl_0_15, vl_0_16, vl_4_0, vl_4_1, vl_4_2, vl_6_0, vl_6_1, vl_8_0, vl_8_1, vl_8_2, vl_8_3, vl_11_0, vl_11_1, vl_11_2, vl_11_3, vl_sI_0, vl_sI_1, vl_sI_2, vl_sI_3, vl_sI_4, vl_sI_5, vl_sI_6, vl_sI_7, vl_cI_0, vl_cI_1, vl_cI_2, vl_cI_3, vl_cI_4, vl_cI_5, vl_cI_6, vl_cI_7, vl_cI_8, vl_cI_9, vl_cI_10, vl_cI_11, vl_cI_12, vl_cI_13, vl_rI_0, vl_rI_1, vl_rI_2, vl_rI_3, vl_rI_4, vl_rI_5, vl_rI_6, vl_rI_7, vl_tr_0, vl_tr0_0, vl_tr1_0, vl_tr2_0, vl_tr3_0, vl_tr_1, vl_tr0_1, vl_tr1_1, vl_tr2_1, vl_tr3_1, vl_tr_2, vl_tr0_2, vl_tr1_2, vl_tr2_2, vl_tr3_2, vl_tr_3, vl_tr0_3, vl_tr1_3, vl_tr2_3, vl_tr3_3, vl_tr_4, vl_tr0_4, vl_tr1_4, vl_tr2_4, vl_tr3_4, vl_tr_5, vl_tr0_5, vl_tr1_5, vl_tr2_5, vl_tr3_5, X_isC, bi_0, not_and, Classical.not_not, not_true_eq_false, not_false_eq_true, forall_const, false_implies, true_implies, implies_true, e1, nIn k1, nIl hk nsB, nIc k1, nIg k1, k10, k11, t6, q20, nIc p1, nIg p1, p8, t12.1, z, t5.1, y, X_refuse_7]
      · simp only [x_132_0, x_132_1, x_132_2, x_132_5, x_132_8, x_132_9, x_132_11, x_132_14, x_132_15, x_132_16, x_132_19, x_132_20, x_132_21, x_132_24, x_132_25, x_132_28, x_132_29, x_132_32, x_132_33, x_132_34, x_132_35, x_132_38, x_132_39, x_132_41, x_132_44, gI_s, gA_s, gN_s, gC_s, gC_n, or_true, true_or, or_false, false_or, or_self, ldI_z, ldI_s, ldA_z, ldA_s, Option.bind_some, Option.bind_none, List.set_cons_zero, List.set_cons_succ, List.length_nil, List.length_cons, Option.toList_some, Option.toList_none, List.cons_append, List.nil_append, Nat.reduceAdd, Nat.reduceSub, Nat.reduceMul, Nat.reduceLeDiff, Nat.reduceLT, Nat.reduceEqDiff, and_self, true_and, and_true, false_and, and_false, if_true, if_false, ↓reduceIte, ite_true, ite_false, Nat.zero_add, Nat.add_zero, Int32.reduceToNatClampNeg, Int32.reduceLE, Int32.reduceLT, Int32.reduceAdd, Int32.neg_neg, l_00, l_m10, l_e0_1, l_e0_2, l_e0_3, l_e0_4, l_e0_5, l_e0_6, l_e0_7, l_e0_8, l_e1_0, l_e1_2, l_e1_3, l_e1_4, l_e1_5, l_e1_6, l_e1_7, l_e1_8, l_e2_0, l_e2_1, l_e2_3, l_e2_4, l_e2_5, l_e2_6, l_e2_7, l_e2_8, l_e3_0, l_e3_1, l_e3_2, l_e3_4, l_e3_5, l_e3_6, l_e3_7, l_e3_8, l_e4_0, l_e4_1, l_e4_2, l_e4_3, l_e4_5, l_e4_6, l_e4_7, l_e4_8, l_e5_0, l_e5_1, l_e5_2, l_e5_3, l_e5_4, l_e5_6, l_e5_7, l_e5_8, l_e6_0, l_e6_1, l_e6_2, l_e6_3, l_e6_4, l_e6_5, l_e6_7, l_e6_8, l_e7_0, l_e7_1, l_e7_2, l_e7_3, l_e7_4, l_e7_5, l_e7_6, l_e7_8, l_e8_0, l_e8_1, l_e8_2, l_e8_3, l_e8_4, l_e8_5, l_e8_6, l_e8_7, eq_self, Int32.reduceSub, kd_600, kd_609, kd_610, kd_611, kd_612, kd_613, kd_614, kd_615, kd_616, kd_617, kd_618, kd_619, kd_620, kd_621, kd_622, kd_623, kd_624, kd_625, kd_626, kd_627, kd_628, kd_629, kd_630, kd_631, kd_632, kd_633, kd_634, kd_635, kd_636, kd_637, kd_639, kd_640, kd_641, kd_642, kd_643, kd_644, kd_645, kd_646, kd_647, kd_648, kd_649, kd_650, kd_654, ln_609, ln_610, ln_611, ln_612, ln_613, ln_614, ln_615, ln_616, ln_617, ln_618, ln_619, ln_620, ln_621, ln_622, ln_623, ln_624, ln_625, ln_626, ln_627, ln_628, ln_629, ln_630, ln_631, ln_632, ln_633, ln_634, ln_635, ln_636, ln_637, ln_639, ln_640, ln_641, ln_642, ln_643, ln_644, ln_645, ln_646, ln_647, ln_648, ln_649, ln_650, ln_654, vl_600_0, vl_600_1, vl_600_2, vl_600_3, vl_600_4, vl_600_5, vl_600_6, vl_600_7, vl_600_8, vl_600_9, vl_600_10, vl_600_11, vl_600_12, vl_600_13, vl_600_14, vl_600_15, vl_600_16, vl_600_17, vl_600_18, vl_600_19, vl_600_20, vl_600_21, vl_600_22, vl_600_23, vl_600_24, vl_600_25, vl_600_26, vl_600_27, vl_600_28, vl_600_29, vl_600_30, vl_600_31, vl_600_32, vl_600_33, vl_600_34, vl_600_35, vl_600_36, vl_600_37, vl_600_38, vl_600_39, vl_600_40, vl_600_41, vl_600_42, vl_600_43, vl_600_44, vl_600_45, vl_600_46, vl_600_47, vl_600_48, vl_600_49, vl_600_50, vl_600_51, vl_600_52, vl_600_53, vl_600_54, M_isC, bi_0, not_and, Classical.not_not, not_true_eq_false, not_false_eq_true, forall_const, false_implies, true_implies, implies_true, e2, nIn k1, nIl hk nsB, nIc k1, nIg k1, k11, z, q20, nIc p1, nIg p1, p8, y, M_refuse_7]
    have cm : m 627 k = 1 := by
      rcases c01 with h | h
      · exact absurd h z
      · exact h
    have snb : sn ≤ 255 := by
      have a10 := J2.2.2.2.2.2.2.2.2
      unfold I10 at a10
      rw [mix_623, mix_627] at a10
      have A := act_one (e := m 623) (f := m 627) (e' := m 623) (f' := fun c => if c = k then 0 else m 627 c) hk (fun c hne => by simp only [hne, if_false, and_self])
      unfold ac at A
      simp only [cm, if_true, show ¬ (0 : Int32) = 1 by decide, if_false] at A
      omega
    obtain ⟨v, -, B1, B2⟩ := two_brings (c := k) (s := p) k11 p8 hrb (by omega) J2.2.2.2.1 hr0 e38 (fun t ht => (J2.2.2.2.2.2.2.1 k hk).2.2.2.2.2 t ht) t5
    obtain ⟨x1, N1, N2, N3, N4⟩ := X_note (x := x) p8 hrb
    obtain ⟨x2, U1, U2, -, U4⟩ := X_unl k11 4 0 x1 (by omega)
    have sn1 : sn < 100000 := by omega
    have sn2 : sn < 256 := by omega
    obtain ⟨m2, K1, K2, K3⟩ := M_kinds (b := v) k11 4 0 (hu (hu (hu m 636 sn (nI p)) 600 38 (nI (sn + 1))) 637 sn (nI hr)) (by omega)
    have U1' : ex 11 0 [.ref (cI k 0), .null] [] x1 = some (none, x2) := by
      rw [show nI 0 = 0 from by decide] at U1
      simp only [x_11_0, x_11_1, gI_s, gA_s, gN_s, gC_s, gC_n, or_true, true_or, or_false, false_or, or_self, ldI_z, ldI_s, ldA_z, ldA_s, Option.bind_some, Option.bind_none, List.set_cons_zero, List.set_cons_succ, List.length_nil, List.length_cons, Option.toList_some, Option.toList_none, List.cons_append, List.nil_append, Nat.reduceAdd, Nat.reduceSub, Nat.reduceMul, Nat.reduceLeDiff, Nat.reduceLT, Nat.reduceEqDiff, and_self, true_and, and_true, false_and, and_false, if_true, if_false, ↓reduceIte, ite_true, ite_false, Nat.zero_add, Nat.add_zero, Int32.reduceToNatClampNeg, Int32.reduceLE, Int32.reduceLT, Int32.reduceAdd, Int32.neg_neg, l_00, l_m10, l_e0_1, l_e0_2, l_e0_3, l_e0_4, l_e0_5, l_e0_6, l_e0_7, l_e0_8, l_e1_0, l_e1_2, l_e1_3, l_e1_4, l_e1_5, l_e1_6, l_e1_7, l_e1_8, l_e2_0, l_e2_1, l_e2_3, l_e2_4, l_e2_5, l_e2_6, l_e2_7, l_e2_8, l_e3_0, l_e3_1, l_e3_2, l_e3_4, l_e3_5, l_e3_6, l_e3_7, l_e3_8, l_e4_0, l_e4_1, l_e4_2, l_e4_3, l_e4_5, l_e4_6, l_e4_7, l_e4_8, l_e5_0, l_e5_1, l_e5_2, l_e5_3, l_e5_4, l_e5_6, l_e5_7, l_e5_8, l_e6_0, l_e6_1, l_e6_2, l_e6_3, l_e6_4, l_e6_5, l_e6_7, l_e6_8, l_e7_0, l_e7_1, l_e7_2, l_e7_3, l_e7_4, l_e7_5, l_e7_6, l_e7_8, l_e8_0, l_e8_1, l_e8_2, l_e8_3, l_e8_4, l_e8_5, l_e8_6, l_e8_7, eq_self, Int32.reduceSub]
      exact U1
    rw [show nI 0 = 0 from by decide] at K1
    have kb : 1001 ≤ cI k 0 := by unfold cI; omega
    have x1l : ∀ a b, a < 1000 → x1 a b = x a b := fun a b h => N2 a b (by unfold sI; omega)
    have x2l : ∀ a b, a < 1000 → x2 a b = x a b := fun a b h => by rw [U2 a b (fun ⟨t, ht, w, _⟩ => by unfold cI at w; omega), x1l a b h]
    have m2l : ∀ b, b ≠ 38 → m2 600 b = m 600 b := fun b h => by rw [K2 _ _ (by omega), hu_k (by decide), hu_j h, hu_k (by decide)]
    have f256 : (nI sn = 256) = False := eq_false (fun h => by
      have : sn = 256 := (nI_eq (by omega) (by omega)).mp h
      omega)
    refine ⟨v, hu (hu (hu x2 (cI k 0) 12 0) 0 15 (x 0 15 + 1)) 0 16 (x 0 16 + v), hu (hu (hu m2 627 k 0) 600 7 (m 600 7 + 1)) 600 8 (m 600 8 + v), ?_, ?_, ?_⟩
    · simp only [x_77_0, x_77_1, x_77_2, x_77_5, x_77_8, x_77_9, x_77_11, x_77_14, x_77_15, x_77_16, x_77_19, x_77_20, x_77_21, x_77_22, x_77_23, x_77_26, x_77_27, x_77_30, x_77_31, x_77_32, x_77_33, x_77_36, x_77_39, x_77_40, x_77_43, x_77_46, x_77_47, x_77_49, x_77_52, x_77_53, x_77_54, x_77_55, x_77_56, x_77_59, x_77_62, x_77_64, x_77_65, x_77_66, x_77_69, x_77_72, x_77_73, x_77_76, x_77_77, x_77_78, x_77_81, x_77_82i, x_77_82a, x_77_83, x_77_86, x_77_87, x_77_88, x_77_91, x_77_92i, x_77_92a, x_77_93, x_77_96, x_77_98, x_77_99, x_77_102, x_77_104, gI_s, gA_s, gN_s, gC_s, gC_n, or_true, true_or, or_false, false_or, or_self, ldI_z, ldI_s, ldA_z, ldA_s, Option.bind_some, Option.bind_none, List.set_cons_zero, List.set_cons_succ, List.length_nil, List.length_cons, Option.toList_some, Option.toList_none, List.cons_append, List.nil_append, Nat.reduceAdd, Nat.reduceSub, Nat.reduceMul, Nat.reduceLeDiff, Nat.reduceLT, Nat.reduceEqDiff, and_self, true_and, and_true, false_and, and_false, if_true, if_false, ↓reduceIte, ite_true, ite_false, Nat.zero_add, Nat.add_zero, Int32.reduceToNatClampNeg, Int32.reduceLE, Int32.reduceLT, Int32.reduceAdd, Int32.neg_neg, l_00, l_m10, l_e0_1, l_e0_2, l_e0_3, l_e0_4, l_e0_5, l_e0_6, l_e0_7, l_e0_8, l_e1_0, l_e1_2, l_e1_3, l_e1_4, l_e1_5, l_e1_6, l_e1_7, l_e1_8, l_e2_0, l_e2_1, l_e2_3, l_e2_4, l_e2_5, l_e2_6, l_e2_7, l_e2_8, l_e3_0, l_e3_1, l_e3_2, l_e3_4, l_e3_5, l_e3_6, l_e3_7, l_e3_8, l_e4_0, l_e4_1, l_e4_2, l_e4_3, l_e4_5, l_e4_6, l_e4_7, l_e4_8, l_e5_0, l_e5_1, l_e5_2, l_e5_3, l_e5_4, l_e5_6, l_e5_7, l_e5_8, l_e6_0, l_e6_1, l_e6_2, l_e6_3, l_e6_4, l_e6_5, l_e6_7, l_e6_8, l_e7_0, l_e7_1, l_e7_2, l_e7_3, l_e7_4, l_e7_5, l_e7_6, l_e7_8, l_e8_0, l_e8_1, l_e8_2, l_e8_3, l_e8_4, l_e8_5, l_e8_6, l_e8_7, eq_self, Int32.reduceSub, kd_0, kd_1, kd_2, kd_3, kd_4, kd_5, kd_6, kd_7, kd_8, kd_9, kd_10, kd_11, kd_12, kd_13, kd_14, kd_15, kd_16, kd_sI0, kd_sI1, kd_sI2, kd_sI3, kd_sI4, kd_cI0, kd_cI1, kd_cI2, kd_cI3, kd_cI4, kd_cI5, kd_cI6, kd_rI0, kd_rI1, kd_rI2, kd_rI3, kd_tr, ln_1, ln_2, ln_3, ln_5, ln_7, ln_9, ln_10, ln_12, ln_13, ln_14, ln_15, ln_16, ln_sI1, ln_sI2, ln_sI3, ln_sI4, ln_cI1, ln_cI2, ln_rI1, ln_rI2, ln_rI3, rf_1, rf_2, rf_3, rf_ct, vl_0_0, vl_0_1, vl_0_2, vl_0_3, vl_0_4, vl_0_5, vl_0_6, vl_0_7, vl_0_8, vl_0_9, vl_0_10, vl_0_11, vl_0_12, vl_0_13, vl_0_14, vl_0_15, vl_0_16, vl_4_0, vl_4_1, vl_4_2, vl_6_0, vl_6_1, vl_8_0, vl_8_1, vl_8_2, vl_8_3, vl_11_0, vl_11_1, vl_11_2, vl_11_3, vl_sI_0, vl_sI_1, vl_sI_2, vl_sI_3, vl_sI_4, vl_sI_5, vl_sI_6, vl_sI_7, vl_cI_0, vl_cI_1, vl_cI_2, vl_cI_3, vl_cI_4, vl_cI_5, vl_cI_6, vl_cI_7, vl_cI_8, vl_cI_9, vl_cI_10, vl_cI_11, vl_cI_12, vl_cI_13, vl_rI_0, vl_rI_1, vl_rI_2, vl_rI_3, vl_rI_4, vl_rI_5, vl_rI_6, vl_rI_7, vl_tr_0, vl_tr0_0, vl_tr1_0, vl_tr2_0, vl_tr3_0, vl_tr_1, vl_tr0_1, vl_tr1_1, vl_tr2_1, vl_tr3_1, vl_tr_2, vl_tr0_2, vl_tr1_2, vl_tr2_2, vl_tr3_2, vl_tr_3, vl_tr0_3, vl_tr1_3, vl_tr2_3, vl_tr3_3, vl_tr_4, vl_tr0_4, vl_tr1_4, vl_tr2_4, vl_tr3_4, vl_tr_5, vl_tr0_5, vl_tr1_5, vl_tr2_5, vl_tr3_5, X_isC, bi_0, not_and, Classical.not_not, not_true_eq_false, not_false_eq_true, forall_const, false_implies, true_implies, implies_true, e1, nIn k1, nIl hk nsB, nIc k1, nIg k1, k10, k11, t6, q20, nIc p1, nIg p1, p8, t12.1, z, t5.1, y, x14, B1, x1l 0 14 (by decide), N1, U1', x2l 0 15 (by decide), x2l 0 16 (by decide), hu_if, ne_sI_cI, ne_cI_sI, ne_sI_rI, ne_rI_sI, ne_cI_rI, ne_rI_cI, eq_sI_0, ne_sI_0_1, ne_sI_0_2, ne_sI_0_3, ne_sI_0_4, ne_sI_1_0, eq_sI_1, ne_sI_1_2, ne_sI_1_3, ne_sI_1_4, ne_sI_2_0, ne_sI_2_1, eq_sI_2, ne_sI_2_3, ne_sI_2_4, ne_sI_3_0, ne_sI_3_1, ne_sI_3_2, eq_sI_3, ne_sI_3_4, ne_sI_4_0, ne_sI_4_1, ne_sI_4_2, ne_sI_4_3, eq_sI_4, ne_sI_k0, ne_k0_sI, ne_sI_k1, ne_k1_sI, ne_sI_k2, ne_k2_sI, ne_sI_k3, ne_k3_sI, ne_sI_k4, ne_k4_sI, ne_sI_k5, ne_k5_sI, ne_sI_k6, ne_k6_sI, ne_sI_k7, ne_k7_sI, ne_sI_k8, ne_k8_sI, ne_sI_k9, ne_k9_sI, ne_sI_k10, ne_k10_sI, ne_sI_k11, ne_k11_sI, ne_sI_k12, ne_k12_sI, ne_sI_k13, ne_k13_sI, ne_sI_k14, ne_k14_sI, ne_sI_k15, ne_k15_sI, ne_sI_k16, ne_k16_sI, ne_sI_k600, ne_k600_sI, ne_sI_k609, ne_k609_sI, ne_sI_k610, ne_k610_sI, ne_sI_k611, ne_k611_sI, ne_sI_k612, ne_k612_sI, ne_sI_k613, ne_k613_sI, ne_sI_k614, ne_k614_sI, ne_sI_k615, ne_k615_sI, ne_sI_k616, ne_k616_sI, ne_sI_k617, ne_k617_sI, ne_sI_k618, ne_k618_sI, ne_sI_k619, ne_k619_sI, ne_sI_k620, ne_k620_sI, ne_sI_k621, ne_k621_sI, ne_sI_k622, ne_k622_sI, ne_sI_k623, ne_k623_sI, ne_sI_k624, ne_k624_sI, ne_sI_k625, ne_k625_sI, ne_sI_k626, ne_k626_sI, ne_sI_k627, ne_k627_sI, ne_sI_k628, ne_k628_sI, ne_sI_k629, ne_k629_sI, ne_sI_k630, ne_k630_sI, ne_sI_k631, ne_k631_sI, ne_sI_k632, ne_k632_sI, ne_sI_k633, ne_k633_sI, ne_sI_k634, ne_k634_sI, ne_sI_k635, ne_k635_sI, ne_sI_k636, ne_k636_sI, ne_sI_k637, ne_k637_sI, ne_sI_k639, ne_k639_sI, ne_sI_k640, ne_k640_sI, ne_sI_k641, ne_k641_sI, ne_sI_k642, ne_k642_sI, ne_sI_k643, ne_k643_sI, ne_sI_k644, ne_k644_sI, ne_sI_k645, ne_k645_sI, ne_sI_k646, ne_k646_sI, ne_sI_k647, ne_k647_sI, ne_sI_k648, ne_k648_sI, ne_sI_k649, ne_k649_sI, ne_sI_k650, ne_k650_sI, ne_sI_k654, ne_k654_sI, eq_cI_0, ne_cI_0_1, ne_cI_0_2, ne_cI_0_3, ne_cI_0_4, ne_cI_0_5, ne_cI_0_6, ne_cI_1_0, eq_cI_1, ne_cI_1_2, ne_cI_1_3, ne_cI_1_4, ne_cI_1_5, ne_cI_1_6, ne_cI_2_0, ne_cI_2_1, eq_cI_2, ne_cI_2_3, ne_cI_2_4, ne_cI_2_5, ne_cI_2_6, ne_cI_3_0, ne_cI_3_1, ne_cI_3_2, eq_cI_3, ne_cI_3_4, ne_cI_3_5, ne_cI_3_6, ne_cI_4_0, ne_cI_4_1, ne_cI_4_2, ne_cI_4_3, eq_cI_4, ne_cI_4_5, ne_cI_4_6, ne_cI_5_0, ne_cI_5_1, ne_cI_5_2, ne_cI_5_3, ne_cI_5_4, eq_cI_5, ne_cI_5_6, ne_cI_6_0, ne_cI_6_1, ne_cI_6_2, ne_cI_6_3, ne_cI_6_4, ne_cI_6_5, eq_cI_6, ne_cI_k0, ne_k0_cI, ne_cI_k1, ne_k1_cI, ne_cI_k2, ne_k2_cI, ne_cI_k3, ne_k3_cI, ne_cI_k4, ne_k4_cI, ne_cI_k5, ne_k5_cI, ne_cI_k6, ne_k6_cI, ne_cI_k7, ne_k7_cI, ne_cI_k8, ne_k8_cI, ne_cI_k9, ne_k9_cI, ne_cI_k10, ne_k10_cI, ne_cI_k11, ne_k11_cI, ne_cI_k12, ne_k12_cI, ne_cI_k13, ne_k13_cI, ne_cI_k14, ne_k14_cI, ne_cI_k15, ne_k15_cI, ne_cI_k16, ne_k16_cI, ne_cI_k600, ne_k600_cI, ne_cI_k609, ne_k609_cI, ne_cI_k610, ne_k610_cI, ne_cI_k611, ne_k611_cI, ne_cI_k612, ne_k612_cI, ne_cI_k613, ne_k613_cI, ne_cI_k614, ne_k614_cI, ne_cI_k615, ne_k615_cI, ne_cI_k616, ne_k616_cI, ne_cI_k617, ne_k617_cI, ne_cI_k618, ne_k618_cI, ne_cI_k619, ne_k619_cI, ne_cI_k620, ne_k620_cI, ne_cI_k621, ne_k621_cI, ne_cI_k622, ne_k622_cI, ne_cI_k623, ne_k623_cI, ne_cI_k624, ne_k624_cI, ne_cI_k625, ne_k625_cI, ne_cI_k626, ne_k626_cI, ne_cI_k627, ne_k627_cI, ne_cI_k628, ne_k628_cI, ne_cI_k629, ne_k629_cI, ne_cI_k630, ne_k630_cI, ne_cI_k631, ne_k631_cI, ne_cI_k632, ne_k632_cI, ne_cI_k633, ne_k633_cI, ne_cI_k634, ne_k634_cI, ne_cI_k635, ne_k635_cI, ne_cI_k636, ne_k636_cI, ne_cI_k637, ne_k637_cI, ne_cI_k639, ne_k639_cI, ne_cI_k640, ne_k640_cI, ne_cI_k641, ne_k641_cI, ne_cI_k642, ne_k642_cI, ne_cI_k643, ne_k643_cI, ne_cI_k644, ne_k644_cI, ne_cI_k645, ne_k645_cI, ne_cI_k646, ne_k646_cI, ne_cI_k647, ne_k647_cI, ne_cI_k648, ne_k648_cI, ne_cI_k649, ne_k649_cI, ne_cI_k650, ne_k650_cI, ne_cI_k654, ne_k654_cI, eq_rI_0, ne_rI_0_1, ne_rI_0_2, ne_rI_0_3, ne_rI_1_0, eq_rI_1, ne_rI_1_2, ne_rI_1_3, ne_rI_2_0, ne_rI_2_1, eq_rI_2, ne_rI_2_3, ne_rI_3_0, ne_rI_3_1, ne_rI_3_2, eq_rI_3, ne_rI_k0, ne_k0_rI, ne_rI_k1, ne_k1_rI, ne_rI_k2, ne_k2_rI, ne_rI_k3, ne_k3_rI, ne_rI_k4, ne_k4_rI, ne_rI_k5, ne_k5_rI, ne_rI_k6, ne_k6_rI, ne_rI_k7, ne_k7_rI, ne_rI_k8, ne_k8_rI, ne_rI_k9, ne_k9_rI, ne_rI_k10, ne_k10_rI, ne_rI_k11, ne_k11_rI, ne_rI_k12, ne_k12_rI, ne_rI_k13, ne_k13_rI, ne_rI_k14, ne_k14_rI, ne_rI_k15, ne_k15_rI, ne_rI_k16, ne_k16_rI, ne_rI_k600, ne_k600_rI, ne_rI_k609, ne_k609_rI, ne_rI_k610, ne_k610_rI, ne_rI_k611, ne_k611_rI, ne_rI_k612, ne_k612_rI, ne_rI_k613, ne_k613_rI, ne_rI_k614, ne_k614_rI, ne_rI_k615, ne_k615_rI, ne_rI_k616, ne_k616_rI, ne_rI_k617, ne_k617_rI, ne_rI_k618, ne_k618_rI, ne_rI_k619, ne_k619_rI, ne_rI_k620, ne_k620_rI, ne_rI_k621, ne_k621_rI, ne_rI_k622, ne_k622_rI, ne_rI_k623, ne_k623_rI, ne_rI_k624, ne_k624_rI, ne_rI_k625, ne_k625_rI, ne_rI_k626, ne_k626_rI, ne_rI_k627, ne_k627_rI, ne_rI_k628, ne_k628_rI, ne_rI_k629, ne_k629_rI, ne_rI_k630, ne_k630_rI, ne_rI_k631, ne_k631_rI, ne_rI_k632, ne_k632_rI, ne_rI_k633, ne_k633_rI, ne_rI_k634, ne_k634_rI, ne_rI_k635, ne_k635_rI, ne_rI_k636, ne_k636_rI, ne_rI_k637, ne_k637_rI, ne_rI_k639, ne_k639_rI, ne_rI_k640, ne_k640_rI, ne_rI_k641, ne_k641_rI, ne_rI_k642, ne_k642_rI, ne_rI_k643, ne_k643_rI, ne_rI_k644, ne_k644_rI, ne_rI_k645, ne_k645_rI, ne_rI_k646, ne_k646_rI, ne_rI_k647, ne_k647_rI, ne_rI_k648, ne_k648_rI, ne_rI_k649, ne_k649_rI, ne_rI_k650, ne_k650_rI, ne_rI_k654, ne_k654_rI]
    · have e636 : ∀ a b, a ≠ 636 → hu m 636 sn (nI p) a b = m a b := fun a b h => hu_k h
      simp only [x_132_0, x_132_1, x_132_2, x_132_5, x_132_8, x_132_9, x_132_11, x_132_14, x_132_15, x_132_16, x_132_19, x_132_20, x_132_21, x_132_24, x_132_25, x_132_28, x_132_29, x_132_32, x_132_33, x_132_34, x_132_35, x_132_38, x_132_39, x_132_41, x_132_44, x_132_45, x_132_46, x_132_47, x_132_48, x_132_51, x_132_52, x_132_53, x_132_56, x_132_57, x_132_58, x_132_61, x_132_64, x_132_67, x_132_68, x_132_120, x_132_121, x_132_124, x_132_125, x_132_128, x_132_129, x_132_132, x_132_133, x_132_134, x_132_135, x_132_136, x_132_139, x_132_140i, x_132_140a, x_132_141, x_132_144ii, x_132_144ia, x_132_144ai, x_132_144aa, x_132_145, x_132_146, x_132_147, x_132_150, x_132_151, x_132_154, x_132_155, x_132_156, gI_s, gA_s, gN_s, gC_s, gC_n, or_true, true_or, or_false, false_or, or_self, ldI_z, ldI_s, ldA_z, ldA_s, Option.bind_some, Option.bind_none, List.set_cons_zero, List.set_cons_succ, List.length_nil, List.length_cons, Option.toList_some, Option.toList_none, List.cons_append, List.nil_append, Nat.reduceAdd, Nat.reduceSub, Nat.reduceMul, Nat.reduceLeDiff, Nat.reduceLT, Nat.reduceEqDiff, and_self, true_and, and_true, false_and, and_false, if_true, if_false, ↓reduceIte, ite_true, ite_false, Nat.zero_add, Nat.add_zero, Int32.reduceToNatClampNeg, Int32.reduceLE, Int32.reduceLT, Int32.reduceAdd, Int32.neg_neg, l_00, l_m10, l_e0_1, l_e0_2, l_e0_3, l_e0_4, l_e0_5, l_e0_6, l_e0_7, l_e0_8, l_e1_0, l_e1_2, l_e1_3, l_e1_4, l_e1_5, l_e1_6, l_e1_7, l_e1_8, l_e2_0, l_e2_1, l_e2_3, l_e2_4, l_e2_5, l_e2_6, l_e2_7, l_e2_8, l_e3_0, l_e3_1, l_e3_2, l_e3_4, l_e3_5, l_e3_6, l_e3_7, l_e3_8, l_e4_0, l_e4_1, l_e4_2, l_e4_3, l_e4_5, l_e4_6, l_e4_7, l_e4_8, l_e5_0, l_e5_1, l_e5_2, l_e5_3, l_e5_4, l_e5_6, l_e5_7, l_e5_8, l_e6_0, l_e6_1, l_e6_2, l_e6_3, l_e6_4, l_e6_5, l_e6_7, l_e6_8, l_e7_0, l_e7_1, l_e7_2, l_e7_3, l_e7_4, l_e7_5, l_e7_6, l_e7_8, l_e8_0, l_e8_1, l_e8_2, l_e8_3, l_e8_4, l_e8_5, l_e8_6, l_e8_7, eq_self, Int32.reduceSub, kd_600, kd_609, kd_610, kd_611, kd_612, kd_613, kd_614, kd_615, kd_616, kd_617, kd_618, kd_619, kd_620, kd_621, kd_622, kd_623, kd_624, kd_625, kd_626, kd_627, kd_628, kd_629, kd_630, kd_631, kd_632, kd_633, kd_634, kd_635, kd_636, kd_637, kd_639, kd_640, kd_641, kd_642, kd_643, kd_644, kd_645, kd_646, kd_647, kd_648, kd_649, kd_650, kd_654, ln_609, ln_610, ln_611, ln_612, ln_613, ln_614, ln_615, ln_616, ln_617, ln_618, ln_619, ln_620, ln_621, ln_622, ln_623, ln_624, ln_625, ln_626, ln_627, ln_628, ln_629, ln_630, ln_631, ln_632, ln_633, ln_634, ln_635, ln_636, ln_637, ln_639, ln_640, ln_641, ln_642, ln_643, ln_644, ln_645, ln_646, ln_647, ln_648, ln_649, ln_650, ln_654, vl_600_0, vl_600_1, vl_600_2, vl_600_3, vl_600_4, vl_600_5, vl_600_6, vl_600_7, vl_600_8, vl_600_9, vl_600_10, vl_600_11, vl_600_12, vl_600_13, vl_600_14, vl_600_15, vl_600_16, vl_600_17, vl_600_18, vl_600_19, vl_600_20, vl_600_21, vl_600_22, vl_600_23, vl_600_24, vl_600_25, vl_600_26, vl_600_27, vl_600_28, vl_600_29, vl_600_30, vl_600_31, vl_600_32, vl_600_33, vl_600_34, vl_600_35, vl_600_36, vl_600_37, vl_600_38, vl_600_39, vl_600_40, vl_600_41, vl_600_42, vl_600_43, vl_600_44, vl_600_45, vl_600_46, vl_600_47, vl_600_48, vl_600_49, vl_600_50, vl_600_51, vl_600_52, vl_600_53, vl_600_54, M_isC, bi_0, not_and, Classical.not_not, not_true_eq_false, not_false_eq_true, forall_const, false_implies, true_implies, implies_true, e2, nIn k1, nIl hk nsB, nIc k1, nIg k1, k11, z, q20, nIc p1, nIg p1, p8, y, B2, e38, f256, nIc sn1, nIg sn1, sn2, nI_1, hu_if, hr0, K1]
      simp only [x_132_179, x_132_180, x_132_183, x_132_184, x_132_185, x_132_186, x_132_187i, x_132_187a, x_132_188, x_132_191, x_132_192, x_132_193, x_132_196, x_132_197i, x_132_197a, x_132_198, x_132_201, x_132_202, x_132_203, x_132_206, x_132_207, gI_s, gA_s, gN_s, gC_s, gC_n, or_true, true_or, or_false, false_or, or_self, ldI_z, ldI_s, ldA_z, ldA_s, Option.bind_some, Option.bind_none, List.set_cons_zero, List.set_cons_succ, List.length_nil, List.length_cons, Option.toList_some, Option.toList_none, List.cons_append, List.nil_append, Nat.reduceAdd, Nat.reduceSub, Nat.reduceMul, Nat.reduceLeDiff, Nat.reduceLT, Nat.reduceEqDiff, and_self, true_and, and_true, false_and, and_false, if_true, if_false, ↓reduceIte, ite_true, ite_false, Nat.zero_add, Nat.add_zero, Int32.reduceToNatClampNeg, Int32.reduceLE, Int32.reduceLT, Int32.reduceAdd, Int32.neg_neg, l_00, l_m10, l_e0_1, l_e0_2, l_e0_3, l_e0_4, l_e0_5, l_e0_6, l_e0_7, l_e0_8, l_e1_0, l_e1_2, l_e1_3, l_e1_4, l_e1_5, l_e1_6, l_e1_7, l_e1_8, l_e2_0, l_e2_1, l_e2_3, l_e2_4, l_e2_5, l_e2_6, l_e2_7, l_e2_8, l_e3_0, l_e3_1, l_e3_2, l_e3_4, l_e3_5, l_e3_6, l_e3_7, l_e3_8, l_e4_0, l_e4_1, l_e4_2, l_e4_3, l_e4_5, l_e4_6, l_e4_7, l_e4_8, l_e5_0, l_e5_1, l_e5_2, l_e5_3, l_e5_4, l_e5_6, l_e5_7, l_e5_8, l_e6_0, l_e6_1, l_e6_2, l_e6_3, l_e6_4, l_e6_5, l_e6_7, l_e6_8, l_e7_0, l_e7_1, l_e7_2, l_e7_3, l_e7_4, l_e7_5, l_e7_6, l_e7_8, l_e8_0, l_e8_1, l_e8_2, l_e8_3, l_e8_4, l_e8_5, l_e8_6, l_e8_7, eq_self, Int32.reduceSub, kd_600, kd_609, kd_610, kd_611, kd_612, kd_613, kd_614, kd_615, kd_616, kd_617, kd_618, kd_619, kd_620, kd_621, kd_622, kd_623, kd_624, kd_625, kd_626, kd_627, kd_628, kd_629, kd_630, kd_631, kd_632, kd_633, kd_634, kd_635, kd_636, kd_637, kd_639, kd_640, kd_641, kd_642, kd_643, kd_644, kd_645, kd_646, kd_647, kd_648, kd_649, kd_650, kd_654, ln_609, ln_610, ln_611, ln_612, ln_613, ln_614, ln_615, ln_616, ln_617, ln_618, ln_619, ln_620, ln_621, ln_622, ln_623, ln_624, ln_625, ln_626, ln_627, ln_628, ln_629, ln_630, ln_631, ln_632, ln_633, ln_634, ln_635, ln_636, ln_637, ln_639, ln_640, ln_641, ln_642, ln_643, ln_644, ln_645, ln_646, ln_647, ln_648, ln_649, ln_650, ln_654, vl_600_0, vl_600_1, vl_600_2, vl_600_3, vl_600_4, vl_600_5, vl_600_6, vl_600_7, vl_600_8, vl_600_9, vl_600_10, vl_600_11, vl_600_12, vl_600_13, vl_600_14, vl_600_15, vl_600_16, vl_600_17, vl_600_18, vl_600_19, vl_600_20, vl_600_21, vl_600_22, vl_600_23, vl_600_24, vl_600_25, vl_600_26, vl_600_27, vl_600_28, vl_600_29, vl_600_30, vl_600_31, vl_600_32, vl_600_33, vl_600_34, vl_600_35, vl_600_36, vl_600_37, vl_600_38, vl_600_39, vl_600_40, vl_600_41, vl_600_42, vl_600_43, vl_600_44, vl_600_45, vl_600_46, vl_600_47, vl_600_48, vl_600_49, vl_600_50, vl_600_51, vl_600_52, vl_600_53, vl_600_54, nIc k1, nIg k1, k11, m2l 7 (by decide), m2l 8 (by decide), hu_if]
    · have SX : ∀ a b, ¬ slX p k (hr % 24) a b → hu (hu (hu x2 (cI k 0) 12 0) 0 15 (x 0 15 + 1)) 0 16 (x 0 16 + v) a b = x a b := fun a b h => by
        rw [hu_if, if_neg (fun w => h (Or.inr (Or.inr (Or.inr ⟨w.1, Or.inr w.2⟩)))), hu_if, if_neg (fun w => h (Or.inr (Or.inr (Or.inr ⟨w.1, Or.inl w.2⟩)))), hu_if, if_neg (fun w => h (Or.inr (Or.inr (Or.inl w)))), U2 a b (fun w => h (Or.inr (Or.inl w))), N2 a b (fun w => h (Or.inl w))]
      have SM : ∀ a b, ¬ slM k sn a b → hu (hu (hu m2 627 k 0) 600 7 (m 600 7 + 1)) 600 8 (m 600 8 + v) a b = m a b := fun a b h => by
        unfold slM at h
        rw [hu_if, if_neg (by omega), hu_if, if_neg (by omega), hu_if, if_neg (by omega), K2 a b (by omega), hu_if, if_neg (by omega), hu_if, if_neg (by omega), hu_if, if_neg (by omega)]
      have s3 : 1000 ≤ sI p 3 ∧ 1000 ≤ sI p 4 ∧ sI p 3 ≠ cI k 0 ∧ sI p 4 ≠ cI k 0 := by unfold sI cI; omega
      refine sell_inv i1 J2 hi hk p8 cm SX SM ?_ ?_ (fun t ht => ?_) ⟨?_, ?_⟩ ⟨?_, ?_⟩ ⟨?_, ?_, ?_⟩
      · rw [hu_k (by omega), hu_k (by omega), hu_k (by omega), U2 _ _ (fun ⟨t, ht, w, _⟩ => by unfold sI cI at w; omega)]; exact N3
      · rw [hu_k (by omega), hu_k (by omega), hu_k (by omega), U2 _ _ (fun ⟨t, ht, w, _⟩ => by unfold sI cI at w; omega)]; exact N4
      · have ct : 1000 ≤ cI k (3 + t) ∧ cI k (3 + t) ≠ cI k 0 := by unfold cI; omega
        obtain ⟨u1, u2, u3, -⟩ := U4 t (by omega) ht
        have hh : ∀ b, hu (hu (hu x2 (cI k 0) 12 0) 0 15 (x 0 15 + 1)) 0 16 (x 0 16 + v) (cI k (3 + t)) b = x2 (cI k (3 + t)) b := fun b => by rw [hu_k (by omega), hu_k (by omega), hu_k ct.2]
        rw [hh, hh, hh, hu_k (by decide), hu_k (by decide), hu_k (by decide)]
        exact ⟨u1, u2, u3, K3 t (by omega) ht⟩
      · rw [hu_k (by omega), hu_k (by omega), hu_at]
      · rw [hu_k (by decide), hu_k (by decide), hu_at]
      · rw [hu_j (by decide), hu_at, hu_j (by decide), hu_at, (tr2 i1 (k := 0) (j := 15) rfl).1]
      · rw [hu_at, hu_at, (tr2 i1 (k := 0) (j := 16) rfl).1]
      · rw [hu_k (by decide), hu_k (by decide), hu_k (by decide), K2 _ _ (by omega), hu_k (by decide), hu_k (by decide), hu_at]
      · rw [hu_k (by decide), hu_k (by decide), hu_k (by decide), K2 _ _ (by omega), hu_at]
      · rw [hu_j (by decide), hu_j (by decide), hu_k (by decide), K2 _ _ (by omega), hu_k (by decide), hu_at]
  · refine ⟨-3, hu x 16 3 (x 16 3 + 1), hu m 650 3 (m 650 3 + 1), ?_, ?_, Inv_mono (mix_ref I 3 (by decide)) hi⟩
    · simp only [x_77_0, x_77_1, x_77_2, x_77_5, x_77_8, x_77_9, x_77_11, x_77_14, gI_s, gA_s, gN_s, gC_s, gC_n, or_true, true_or, or_false, false_or, or_self, ldI_z, ldI_s, ldA_z, ldA_s, Option.bind_some, Option.bind_none, List.set_cons_zero, List.set_cons_succ, List.length_nil, List.length_cons, Option.toList_some, Option.toList_none, List.cons_append, List.nil_append, Nat.reduceAdd, Nat.reduceSub, Nat.reduceMul, Nat.reduceLeDiff, Nat.reduceLT, Nat.reduceEqDiff, and_self, true_and, and_true, false_and, and_false, if_true, if_false, ↓reduceIte, ite_true, ite_false, Nat.zero_add, Nat.add_zero, Int32.reduceToNatClampNeg, Int32.reduceLE, Int32.reduceLT, Int32.reduceAdd, Int32.neg_neg, l_00, l_m10, l_e0_1, l_e0_2, l_e0_3, l_e0_4, l_e0_5, l_e0_6, l_e0_7, l_e0_8, l_e1_0, l_e1_2, l_e1_3, l_e1_4, l_e1_5, l_e1_6, l_e1_7, l_e1_8, l_e2_0, l_e2_1, l_e2_3, l_e2_4, l_e2_5, l_e2_6, l_e2_7, l_e2_8, l_e3_0, l_e3_1, l_e3_2, l_e3_4, l_e3_5, l_e3_6, l_e3_7, l_e3_8, l_e4_0, l_e4_1, l_e4_2, l_e4_3, l_e4_5, l_e4_6, l_e4_7, l_e4_8, l_e5_0, l_e5_1, l_e5_2, l_e5_3, l_e5_4, l_e5_6, l_e5_7, l_e5_8, l_e6_0, l_e6_1, l_e6_2, l_e6_3, l_e6_4, l_e6_5, l_e6_7, l_e6_8, l_e7_0, l_e7_1, l_e7_2, l_e7_3, l_e7_4, l_e7_5, l_e7_6, l_e7_8, l_e8_0, l_e8_1, l_e8_2, l_e8_3, l_e8_4, l_e8_5, l_e8_6, l_e8_7, eq_self, Int32.reduceSub, kd_0, kd_1, kd_2, kd_3, kd_4, kd_5, kd_6, kd_7, kd_8, kd_9, kd_10, kd_11, kd_12, kd_13, kd_14, kd_15, kd_16, kd_sI0, kd_sI1, kd_sI2, kd_sI3, kd_sI4, kd_cI0, kd_cI1, kd_cI2, kd_cI3, kd_cI4, kd_cI5, kd_cI6, kd_rI0, kd_rI1, kd_rI2, kd_rI3, kd_tr, ln_1, ln_2, ln_3, ln_5, ln_7, ln_9, ln_10, ln_12, ln_13, ln_14, ln_15, ln_16, ln_sI1, ln_sI2, ln_sI3, ln_sI4, ln_cI1, ln_cI2, ln_rI1, ln_rI2, ln_rI3, rf_1, rf_2, rf_3, rf_ct, vl_0_0, vl_0_1, vl_0_2, vl_0_3, vl_0_4, vl_0_5, vl_0_6, vl_0_7, vl_0_8, vl_0_9, vl_0_10, vl_0_11, vl_0_12, vl_0_13, vl_0_14, vl_0_15, vl_0_16, vl_4_0, vl_4_1, vl_4_2, vl_6_0, vl_6_1, vl_8_0, vl_8_1, vl_8_2, vl_8_3, vl_11_0, vl_11_1, vl_11_2, vl_11_3, vl_sI_0, vl_sI_1, vl_sI_2, vl_sI_3, vl_sI_4, vl_sI_5, vl_sI_6, vl_sI_7, vl_cI_0, vl_cI_1, vl_cI_2, vl_cI_3, vl_cI_4, vl_cI_5, vl_cI_6, vl_cI_7, vl_cI_8, vl_cI_9, vl_cI_10, vl_cI_11, vl_cI_12, vl_cI_13, vl_rI_0, vl_rI_1, vl_rI_2, vl_rI_3, vl_rI_4, vl_rI_5, vl_rI_6, vl_rI_7, vl_tr_0, vl_tr0_0, vl_tr1_0, vl_tr2_0, vl_tr3_0, vl_tr_1, vl_tr0_1, vl_tr1_1, vl_tr2_1, vl_tr3_1, vl_tr_2, vl_tr0_2, vl_tr1_2, vl_tr2_2, vl_tr3_2, vl_tr_3, vl_tr0_3, vl_tr1_3, vl_tr2_3, vl_tr3_3, vl_tr_4, vl_tr0_4, vl_tr1_4, vl_tr2_4, vl_tr3_4, vl_tr_5, vl_tr0_5, vl_tr1_5, vl_tr2_5, vl_tr3_5, X_isC, bi_0, not_and, Classical.not_not, not_true_eq_false, not_false_eq_true, forall_const, false_implies, true_implies, implies_true, e1, g, X_refuse_3]
    · simp only [x_132_0, x_132_1, x_132_2, x_132_5, x_132_8, x_132_9, x_132_11, x_132_14, gI_s, gA_s, gN_s, gC_s, gC_n, or_true, true_or, or_false, false_or, or_self, ldI_z, ldI_s, ldA_z, ldA_s, Option.bind_some, Option.bind_none, List.set_cons_zero, List.set_cons_succ, List.length_nil, List.length_cons, Option.toList_some, Option.toList_none, List.cons_append, List.nil_append, Nat.reduceAdd, Nat.reduceSub, Nat.reduceMul, Nat.reduceLeDiff, Nat.reduceLT, Nat.reduceEqDiff, and_self, true_and, and_true, false_and, and_false, if_true, if_false, ↓reduceIte, ite_true, ite_false, Nat.zero_add, Nat.add_zero, Int32.reduceToNatClampNeg, Int32.reduceLE, Int32.reduceLT, Int32.reduceAdd, Int32.neg_neg, l_00, l_m10, l_e0_1, l_e0_2, l_e0_3, l_e0_4, l_e0_5, l_e0_6, l_e0_7, l_e0_8, l_e1_0, l_e1_2, l_e1_3, l_e1_4, l_e1_5, l_e1_6, l_e1_7, l_e1_8, l_e2_0, l_e2_1, l_e2_3, l_e2_4, l_e2_5, l_e2_6, l_e2_7, l_e2_8, l_e3_0, l_e3_1, l_e3_2, l_e3_4, l_e3_5, l_e3_6, l_e3_7, l_e3_8, l_e4_0, l_e4_1, l_e4_2, l_e4_3, l_e4_5, l_e4_6, l_e4_7, l_e4_8, l_e5_0, l_e5_1, l_e5_2, l_e5_3, l_e5_4, l_e5_6, l_e5_7, l_e5_8, l_e6_0, l_e6_1, l_e6_2, l_e6_3, l_e6_4, l_e6_5, l_e6_7, l_e6_8, l_e7_0, l_e7_1, l_e7_2, l_e7_3, l_e7_4, l_e7_5, l_e7_6, l_e7_8, l_e8_0, l_e8_1, l_e8_2, l_e8_3, l_e8_4, l_e8_5, l_e8_6, l_e8_7, eq_self, Int32.reduceSub, kd_600, kd_609, kd_610, kd_611, kd_612, kd_613, kd_614, kd_615, kd_616, kd_617, kd_618, kd_619, kd_620, kd_621, kd_622, kd_623, kd_624, kd_625, kd_626, kd_627, kd_628, kd_629, kd_630, kd_631, kd_632, kd_633, kd_634, kd_635, kd_636, kd_637, kd_639, kd_640, kd_641, kd_642, kd_643, kd_644, kd_645, kd_646, kd_647, kd_648, kd_649, kd_650, kd_654, ln_609, ln_610, ln_611, ln_612, ln_613, ln_614, ln_615, ln_616, ln_617, ln_618, ln_619, ln_620, ln_621, ln_622, ln_623, ln_624, ln_625, ln_626, ln_627, ln_628, ln_629, ln_630, ln_631, ln_632, ln_633, ln_634, ln_635, ln_636, ln_637, ln_639, ln_640, ln_641, ln_642, ln_643, ln_644, ln_645, ln_646, ln_647, ln_648, ln_649, ln_650, ln_654, vl_600_0, vl_600_1, vl_600_2, vl_600_3, vl_600_4, vl_600_5, vl_600_6, vl_600_7, vl_600_8, vl_600_9, vl_600_10, vl_600_11, vl_600_12, vl_600_13, vl_600_14, vl_600_15, vl_600_16, vl_600_17, vl_600_18, vl_600_19, vl_600_20, vl_600_21, vl_600_22, vl_600_23, vl_600_24, vl_600_25, vl_600_26, vl_600_27, vl_600_28, vl_600_29, vl_600_30, vl_600_31, vl_600_32, vl_600_33, vl_600_34, vl_600_35, vl_600_36, vl_600_37, vl_600_38, vl_600_39, vl_600_40, vl_600_41, vl_600_42, vl_600_43, vl_600_44, vl_600_45, vl_600_46, vl_600_47, vl_600_48, vl_600_49, vl_600_50, vl_600_51, vl_600_52, vl_600_53, vl_600_54, M_isC, bi_0, not_and, Classical.not_not, not_true_eq_false, not_false_eq_true, forall_const, false_implies, true_implies, implies_true, e2, g, M_refuse_3]
  · refine ⟨-3, hu x 16 3 (x 16 3 + 1), hu m 650 3 (m 650 3 + 1), ?_, ?_, Inv_mono (mix_ref I 3 (by decide)) hi⟩
    · simp only [x_77_0, x_77_1, x_77_2, x_77_5, x_77_8, x_77_9, x_77_11, x_77_14, gI_s, gA_s, gN_s, gC_s, gC_n, or_true, true_or, or_false, false_or, or_self, ldI_z, ldI_s, ldA_z, ldA_s, Option.bind_some, Option.bind_none, List.set_cons_zero, List.set_cons_succ, List.length_nil, List.length_cons, Option.toList_some, Option.toList_none, List.cons_append, List.nil_append, Nat.reduceAdd, Nat.reduceSub, Nat.reduceMul, Nat.reduceLeDiff, Nat.reduceLT, Nat.reduceEqDiff, and_self, true_and, and_true, false_and, and_false, if_true, if_false, ↓reduceIte, ite_true, ite_false, Nat.zero_add, Nat.add_zero, Int32.reduceToNatClampNeg, Int32.reduceLE, Int32.reduceLT, Int32.reduceAdd, Int32.neg_neg, l_00, l_m10, l_e0_1, l_e0_2, l_e0_3, l_e0_4, l_e0_5, l_e0_6, l_e0_7, l_e0_8, l_e1_0, l_e1_2, l_e1_3, l_e1_4, l_e1_5, l_e1_6, l_e1_7, l_e1_8, l_e2_0, l_e2_1, l_e2_3, l_e2_4, l_e2_5, l_e2_6, l_e2_7, l_e2_8, l_e3_0, l_e3_1, l_e3_2, l_e3_4, l_e3_5, l_e3_6, l_e3_7, l_e3_8, l_e4_0, l_e4_1, l_e4_2, l_e4_3, l_e4_5, l_e4_6, l_e4_7, l_e4_8, l_e5_0, l_e5_1, l_e5_2, l_e5_3, l_e5_4, l_e5_6, l_e5_7, l_e5_8, l_e6_0, l_e6_1, l_e6_2, l_e6_3, l_e6_4, l_e6_5, l_e6_7, l_e6_8, l_e7_0, l_e7_1, l_e7_2, l_e7_3, l_e7_4, l_e7_5, l_e7_6, l_e7_8, l_e8_0, l_e8_1, l_e8_2, l_e8_3, l_e8_4, l_e8_5, l_e8_6, l_e8_7, eq_self, Int32.reduceSub, kd_0, kd_1, kd_2, kd_3, kd_4, kd_5, kd_6, kd_7, kd_8, kd_9, kd_10, kd_11, kd_12, kd_13, kd_14, kd_15, kd_16, kd_sI0, kd_sI1, kd_sI2, kd_sI3, kd_sI4, kd_cI0, kd_cI1, kd_cI2, kd_cI3, kd_cI4, kd_cI5, kd_cI6, kd_rI0, kd_rI1, kd_rI2, kd_rI3, kd_tr, ln_1, ln_2, ln_3, ln_5, ln_7, ln_9, ln_10, ln_12, ln_13, ln_14, ln_15, ln_16, ln_sI1, ln_sI2, ln_sI3, ln_sI4, ln_cI1, ln_cI2, ln_rI1, ln_rI2, ln_rI3, rf_1, rf_2, rf_3, rf_ct, vl_0_0, vl_0_1, vl_0_2, vl_0_3, vl_0_4, vl_0_5, vl_0_6, vl_0_7, vl_0_8, vl_0_9, vl_0_10, vl_0_11, vl_0_12, vl_0_13, vl_0_14, vl_0_15, vl_0_16, vl_4_0, vl_4_1, vl_4_2, vl_6_0, vl_6_1, vl_8_0, vl_8_1, vl_8_2, vl_8_3, vl_11_0, vl_11_1, vl_11_2, vl_11_3, vl_sI_0, vl_sI_1, vl_sI_2, vl_sI_3, vl_sI_4, vl_sI_5, vl_sI_6, vl_sI_7, vl_cI_0, vl_cI_1, vl_cI_2, vl_cI_3, vl_cI_4, vl_cI_5, vl_cI_6, vl_cI_7, vl_cI_8, vl_cI_9, vl_cI_10, vl_cI_11, vl_cI_12, vl_cI_13, vl_rI_0, vl_rI_1, vl_rI_2, vl_rI_3, vl_rI_4, vl_rI_5, vl_rI_6, vl_rI_7, vl_tr_0, vl_tr0_0, vl_tr1_0, vl_tr2_0, vl_tr3_0, vl_tr_1, vl_tr0_1, vl_tr1_1, vl_tr2_1, vl_tr3_1, vl_tr_2, vl_tr0_2, vl_tr1_2, vl_tr2_2, vl_tr3_2, vl_tr_3, vl_tr0_3, vl_tr1_3, vl_tr2_3, vl_tr3_3, vl_tr_4, vl_tr0_4, vl_tr1_4, vl_tr2_4, vl_tr3_4, vl_tr_5, vl_tr0_5, vl_tr1_5, vl_tr2_5, vl_tr3_5, X_isC, bi_0, not_and, Classical.not_not, not_true_eq_false, not_false_eq_true, forall_const, false_implies, true_implies, implies_true, e1, g, g', X_refuse_3]
    · simp only [x_132_0, x_132_1, x_132_2, x_132_5, x_132_8, x_132_9, x_132_11, x_132_14, gI_s, gA_s, gN_s, gC_s, gC_n, or_true, true_or, or_false, false_or, or_self, ldI_z, ldI_s, ldA_z, ldA_s, Option.bind_some, Option.bind_none, List.set_cons_zero, List.set_cons_succ, List.length_nil, List.length_cons, Option.toList_some, Option.toList_none, List.cons_append, List.nil_append, Nat.reduceAdd, Nat.reduceSub, Nat.reduceMul, Nat.reduceLeDiff, Nat.reduceLT, Nat.reduceEqDiff, and_self, true_and, and_true, false_and, and_false, if_true, if_false, ↓reduceIte, ite_true, ite_false, Nat.zero_add, Nat.add_zero, Int32.reduceToNatClampNeg, Int32.reduceLE, Int32.reduceLT, Int32.reduceAdd, Int32.neg_neg, l_00, l_m10, l_e0_1, l_e0_2, l_e0_3, l_e0_4, l_e0_5, l_e0_6, l_e0_7, l_e0_8, l_e1_0, l_e1_2, l_e1_3, l_e1_4, l_e1_5, l_e1_6, l_e1_7, l_e1_8, l_e2_0, l_e2_1, l_e2_3, l_e2_4, l_e2_5, l_e2_6, l_e2_7, l_e2_8, l_e3_0, l_e3_1, l_e3_2, l_e3_4, l_e3_5, l_e3_6, l_e3_7, l_e3_8, l_e4_0, l_e4_1, l_e4_2, l_e4_3, l_e4_5, l_e4_6, l_e4_7, l_e4_8, l_e5_0, l_e5_1, l_e5_2, l_e5_3, l_e5_4, l_e5_6, l_e5_7, l_e5_8, l_e6_0, l_e6_1, l_e6_2, l_e6_3, l_e6_4, l_e6_5, l_e6_7, l_e6_8, l_e7_0, l_e7_1, l_e7_2, l_e7_3, l_e7_4, l_e7_5, l_e7_6, l_e7_8, l_e8_0, l_e8_1, l_e8_2, l_e8_3, l_e8_4, l_e8_5, l_e8_6, l_e8_7, eq_self, Int32.reduceSub, kd_600, kd_609, kd_610, kd_611, kd_612, kd_613, kd_614, kd_615, kd_616, kd_617, kd_618, kd_619, kd_620, kd_621, kd_622, kd_623, kd_624, kd_625, kd_626, kd_627, kd_628, kd_629, kd_630, kd_631, kd_632, kd_633, kd_634, kd_635, kd_636, kd_637, kd_639, kd_640, kd_641, kd_642, kd_643, kd_644, kd_645, kd_646, kd_647, kd_648, kd_649, kd_650, kd_654, ln_609, ln_610, ln_611, ln_612, ln_613, ln_614, ln_615, ln_616, ln_617, ln_618, ln_619, ln_620, ln_621, ln_622, ln_623, ln_624, ln_625, ln_626, ln_627, ln_628, ln_629, ln_630, ln_631, ln_632, ln_633, ln_634, ln_635, ln_636, ln_637, ln_639, ln_640, ln_641, ln_642, ln_643, ln_644, ln_645, ln_646, ln_647, ln_648, ln_649, ln_650, ln_654, vl_600_0, vl_600_1, vl_600_2, vl_600_3, vl_600_4, vl_600_5, vl_600_6, vl_600_7, vl_600_8, vl_600_9, vl_600_10, vl_600_11, vl_600_12, vl_600_13, vl_600_14, vl_600_15, vl_600_16, vl_600_17, vl_600_18, vl_600_19, vl_600_20, vl_600_21, vl_600_22, vl_600_23, vl_600_24, vl_600_25, vl_600_26, vl_600_27, vl_600_28, vl_600_29, vl_600_30, vl_600_31, vl_600_32, vl_600_33, vl_600_34, vl_600_35, vl_600_36, vl_600_37, vl_600_38, vl_600_39, vl_600_40, vl_600_41, vl_600_42, vl_600_43, vl_600_44, vl_600_45, vl_600_46, vl_600_47, vl_600_48, vl_600_49, vl_600_50, vl_600_51, vl_600_52, vl_600_53, vl_600_54, M_isC, bi_0, not_and, Classical.not_not, not_true_eq_false, not_false_eq_true, forall_const, false_implies, true_implies, implies_true, e2, g, g', M_refuse_3]
