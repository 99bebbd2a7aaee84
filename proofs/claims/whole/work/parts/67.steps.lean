/-! ===== from the relation to an hour, and back ===== -/
theorem wfill_rng {f : Nat → Int32} {t : Nat} (h : ∀ b, b < 48 → f b = -9999 ∨ (-400 ≤ (f b).toInt ∧ (f b).toInt ≤ 500)) : -400 ≤ (wfill f t).toInt ∧ (wfill f t).toInt ≤ 500 := by
  unfold wfill
  split
  · rename_i k hk
    have q := List.find?_some hk
    have q' : f ((t + 48 - k) % 48) ≠ -9999 := by simpa using q
    rcases h ((t + 48 - k) % 48) (Nat.mod_lt _ (by decide)) with z | z
    · exact absurd z q'
    · exact z
  · decide
section ST
variable {i hr nc kk c ns nr : Nat} {x m : Hp}
theorem Sta_R (R : RInv i hr nc kk (mix x m)) : ∃ ns nr, Sta ns nr x m ∧ m 600 1 = nI ns ∧ 2 ≤ ns ∧ ns ≤ 8 := by
  obtain ⟨i1, ns, nr, tl, sn, ⟨⟨b1, b1', b1''⟩, b2, ⟨b3, b3'⟩, b4, b7, b8⟩, a3, a4, a5, a6, a7, a8, a9, a10⟩ := R
  rw [mix_600] at b1 b3
  refine ⟨ns, nr, ⟨fun s hs t ht => ?_, fun s hs => ⟨tr2 i1 (tr_s4_ s hs), tr2 i1 (tr_s6_ s hs)⟩, fun j hj => tr2 i1 (tr_14_ j hj), ⟨?_, b3, b3'⟩, a3, a7, b1''⟩, b1, b1', b1''⟩
  · have T := fun t ht => a4 s hs t ht
    simp only [mix_sI] at T
    have e : ∀ b, b < 48 → x (sI s 1) b = m 615 (48 * s + b) := fun b hb => (tr2 i1 (tr_w_ s hs b hb)).1
    have w := wfill_congr (t := t) (f := x (sI s 1)) (g := fun q => m 615 (48 * s + q)) e
    have r := wfill_rng (t := t) (f := x (sI s 1)) (fun b hb => (T b hb).1)
    rw [w] at r
    exact ⟨(T t ht).2.trans w, r⟩
  · rw [(tr2 i1 (k := 0) (j := 13) rfl).1]; exact b3
theorem i01 {v : Int32} (h1 : 0 ≤ v.toInt) (h2 : v.toInt ≤ 1) : v = 0 ∨ v = 1 := by
  rcases (show v.toInt = 0 ∨ v.toInt = 1 by omega) with h | h
  · exact Or.inl (Int32.toInt_inj.mp (by rw [h]; rfl))
  · exact Or.inr (Int32.toInt_inj.mp (by rw [h]; rfl))
theorem Cor_R (R : RInv i hr nc kk (mix x m)) (e1 : m 600 1 = nI ns) (n8 : ns ≤ 8) (hc : c < nc) : Cor ns (if c < kk then hr + 1 else hr) c c x m ∧ Ext 8 c x m := by
  obtain ⟨i1, ns', nr, tl, sn, ⟨⟨b1, b1', b1''⟩, ⟨b2, b2'⟩, ⟨b3, b3'⟩, b4, b7, b8⟩, a3, a4, a5, a6, a7, a8, a9, a10⟩ := R
  rw [mix_600] at b1
  have en : ns' = ns := nI_inj (by omega) (by omega) (b1.symm.trans e1)
  subst en
  have c10 : c < 10 := by omega
  have M0 : ∀ a j, 600 ≤ a ∧ a < 700 → mix x m a j = m a j := fun a j h => by rw [mix_M h]
  obtain ⟨d1, d2, d3, d4, d5, d6⟩ := a8 c hc
  rw [mix_cI] at d1
  rw [mix_cI, M0 617 _ (by decide)] at d2
  rw [mix_cI, M0 623 _ (by decide)] at d3
  rw [mix_cI, M0 626 _ (by decide)] at d4
  rw [M0 620 _ (by decide), M0 621 _ (by decide), M0 622 _ (by decide), M0 623 _ (by decide), M0 624 _ (by decide)] at d5
  obtain ⟨p, hp, d20, D⟩ := d5
  have t4 := tr2 i1 (tr_c4_ c c10)
  have t5 := tr2 i1 (tr_c5_ c c10)
  have t6 := tr2 i1 (tr_c6_ c c10)
  have t8 := tr2 i1 (tr_c8_ c c10)
  have t9 := tr2 i1 (tr_c9_ c c10)
  have t10 := tr2 i1 (tr_c10_ c c10)
  have t12 := tr2 i1 (tr_c12_ c c10)
  have t13 := tr2 i1 (tr_c13_ c c10)
  dsimp only at t4 t5 t6 t8 t9 t10 t12 t13
  refine ⟨⟨⟨d1, d2⟩, t4, ⟨t5.1, i01 t5.2.1 t5.2.2⟩, ⟨p, hp, by rw [t6.1, d20], d20, d3, t8, t9, D⟩, fun t ht => ⟨tr2 i1 (tr_ht_ c c10 t ht), d6 t ht⟩⟩, t10.1, d4, ⟨t12.1, i01 t12.2.1 t12.2.2⟩, ⟨t13.1, i01 t13.2.1 t13.2.2⟩, fun p hp => (tr2 i1 (tr_cl_ c c10 p hp)).1, (tr2 i1 (k := 8) (j := 2) rfl).1, (tr2 i1 (k := 8) (j := 3) rfl).1⟩
theorem car_C {hr' : Nat} (C : Cor ns hr' c c x m) (E : Ext 8 c x m) : carOK ns hr' c c (mix x m) := by
  have M0 : ∀ a j, 600 ≤ a ∧ a < 700 → mix x m a j = m a j := fun a j h => by rw [mix_M h]
  obtain ⟨⟨d1, d2⟩, B, V, ⟨p, hp, w6, w20, w7, w8, w9, D⟩, T⟩ := C
  obtain ⟨e1, e2, e3, e4, e5, e6, e7⟩ := E
  refine ⟨?_, ?_, ?_, ?_, ?_, fun t ht => (T t ht).2⟩
  · rw [mix_cI]; exact d1
  · rw [mix_cI, M0 617 _ (by decide)]; exact d2
  · rw [mix_cI, M0 623 _ (by decide)]; exact w7
  · rw [mix_cI, M0 626 _ (by decide)]; exact e2
  · rw [M0 620 _ (by decide), M0 621 _ (by decide), M0 622 _ (by decide), M0 623 _ (by decide), M0 624 _ (by decide)]
    exact ⟨p, hp, w20, D⟩
theorem b01 {v : Int32} (h : v = 0 ∨ v = 1) : 0 ≤ v.toInt ∧ v.toInt ≤ 1 := by rcases h with rfl | rfl <;> decide
set_option maxHeartbeats 1000000 in
theorem R_hour (R : RInv i hr nc c (mix x m)) (Q : IceR 8 x m) (hc : c < nc) (hn : nc ≤ 10) (hh : hr ≤ 102400) : ∃ r x' m', ex 71 0 [.ref 0, .ref (cI c 0), .ref 8, .int (nI hr), .null, .null] [] x = some (some (.int r), x') ∧ ex 126 0 [.ref 600, .int (nI c), .int (nI hr), .int (nI c), .null, .null, .null, .null, .null] [] m = some (some (.int r), m') ∧ (r = 0 ∨ r = 1) ∧ RInv i hr nc (c + 1) (mix x' m') ∧ IceR 8 x' m' := by
  obtain ⟨ns, nr, S, e1, n2, n8⟩ := Sta_R R
  obtain ⟨C, E⟩ := Cor_R R e1 n8 hc
  rw [if_neg (Nat.lt_irrefl c)] at C
  have c10 : c < 10 := by omega
  obtain ⟨r, x', m', g1, g2, g3, g4, Q', C', E', G⟩ := hour1 (u := nI hr) (Or.inl rfl) (by omega) (nI_pos' (by omega)) (by omega) S Q C
  have E1 := E' E
  refine ⟨r, x', m', g1, g2, ?_, ?_, Q'⟩
  · rcases G with h | h | h
    · exact Or.inr h.1
    · exact Or.inl h.1
    · exact Or.inl h.1
  · refine R_set R (Or.inl hc) (fun a b h => g3 a b (fun q => h ?_)) (fun a b h => g4 a b (fun q => h ?_)) (fun a j q hq hz => ?_) (fun c' h1 h2 => by omega) (fun ns' q1 q2 q3 _ => ?_) (fun _ => ?_)
    · rcases q with ⟨z, hz, q⟩ | q | q | q | q
      · exact Or.inl ⟨z, by omega, q⟩
      · exact Or.inr (Or.inl q)
      · exact Or.inr (Or.inr (Or.inl q))
      · exact Or.inr (Or.inr (Or.inr (Or.inl q)))
      · exact Or.inr (Or.inr (Or.inr (Or.inr (Or.inl q))))
    · unfold cN
      rcases q with q | q | q | q
      · exact Or.inl q
      · exact Or.inr (Or.inr (Or.inl q))
      · exact Or.inr (Or.inr (Or.inr (Or.inl q)))
      · exact Or.inr (Or.inr (Or.inr (Or.inr (Or.inl q))))
    · obtain ⟨-, B, V, ⟨p, hp, w6, w20, w7, w8, w9, D⟩, T⟩ := C'
      obtain ⟨f1, f2, f3, f4, f5, f6, f7⟩ := E1
      rcases hz with ⟨z, hz, rfl⟩ | hz
      · rcases tr_car2 c10 hz hq with ⟨rfl, h⟩ | ⟨rfl, hj, rfl⟩ | ⟨t, ht, rfl, rfl, rfl⟩
        · rcases h with ⟨rfl, rfl⟩ | ⟨rfl, rfl⟩ | ⟨rfl, rfl⟩ | ⟨rfl, rfl⟩ | ⟨rfl, rfl⟩ | ⟨rfl, rfl⟩ | ⟨rfl, rfl⟩ | ⟨rfl, rfl⟩
          · exact B
          · exact ⟨V.1, b01 V.2⟩
          · refine ⟨w6.trans w20.symm, ?_⟩
            dsimp only
            rw [w20, nI_int (by omega)]
            omega
          · exact w8
          · exact w9
          · exact ⟨f1, i_lo _, i_hi _⟩
          · exact ⟨f3.1, b01 f3.2⟩
          · exact ⟨f4.1, b01 f4.2⟩
        · exact ⟨f5 j hj, i_lo _, i_hi _⟩
        · exact (T t ht).1
      · rcases tr_89 hz hq with ⟨rfl, hj, rfl⟩ | ⟨rfl, rfl, rfl⟩ | ⟨rfl, rfl, rfl⟩
        · exact (Q' j hj).1
        · exact ⟨f6, i_lo _, i_hi _⟩
        · exact ⟨f7, i_lo _, i_hi _⟩
    · have en : ns' = ns := nI_inj (by omega) (by omega) (q1.symm.trans e1)
      subst en
      rw [if_pos (Nat.lt_succ_self c)]
      exact car_C C' E1
    · unfold ac
      rcases G with h | h | h
      · rw [if_neg h.2.1, if_pos h.2.2.1, if_pos h.2.2.2]
        split <;> omega
      · rw [h.2.1, h.2.2.1, h.2.2.2]
        exact Nat.le_refl _
      · rw [if_neg h.2.1, if_neg h.2.2.1, h.2.2.2.2]
        exact Nat.le_refl _
theorem R_rest (R : RInv i hr nc kk (mix x m)) : RInv i hr nc kk (mix (hw x 10 (fun z => if z < 8 then 0 else x 10 z)) (hw m 614 (fun b => if b < 8 then 0 else m 614 b))) ∧ IceR 8 (hw x 10 (fun z => if z < 8 then 0 else x 10 z)) (hw m 614 (fun b => if b < 8 then 0 else m 614 b)) := by
  have ox : ∀ a b, a ≠ 10 → hw x 10 (fun z => if z < 8 then 0 else x 10 z) a b = x a b := fun a b h => by unfold hw; rw [if_neg h]
  have om : ∀ a b, a ≠ 614 → hw m 614 (fun b => if b < 8 then 0 else m 614 b) a b = m a b := fun a b h => by unfold hw; rw [if_neg h]
  have i1 := R.1
  refine ⟨R_set R (Or.inr rfl) (fun a b h => ox a b (fun q => h ?_)) (fun a b h => om a b (fun q => h ?_)) (fun a j q hq hz => ?_) (fun c' _ _ => Iff.rfl) (fun ns' _ _ h3 _ => ?_) (fun h => ?_), fun s hs => ?_⟩
  · exact Or.inr (Or.inr (Or.inr (Or.inl q)))
  · exact Or.inr (Or.inr (Or.inr (Or.inl q)))
  · rcases hz with ⟨z, hz, rfl⟩ | hz
    · exact absurd hq (fun hq => tr_10 hz hq)
    · have T := tr2 i1 hq
      rcases tr_89 hz hq with ⟨rfl, hj, rfl⟩ | ⟨rfl, rfl, rfl⟩ | ⟨rfl, rfl, rfl⟩
      · dsimp only at T ⊢
        rw [ox _ _ (by decide), om _ _ (by decide)]; exact T
      · rw [ox _ _ (by decide), om _ _ (by decide)]; exact T
      · rw [ox _ _ (by decide), om _ _ (by decide)]; exact T
  · obtain ⟨-, ns, nr, tl, sn, a2, -⟩ := R
    have := a2.2.1.2
    omega
  · obtain ⟨-, ns, nr, tl, sn, a2, -⟩ := R
    have := a2.2.1.2
    omega
  · have t9 := tr2 i1 (tr_9_ s hs)
    have t4 := tr2 i1 (tr_s4_ s hs)
    dsimp only at t9 t4
    rw [show 8 + 1 = 9 from rfl, show 8 + 2 = 10 from rfl, ox _ _ (by decide), om 610 _ (by decide), om 611 _ (by decide)]
    have e1 : hw x 10 (fun z => if z < 8 then 0 else x 10 z) 10 s = 0 := by unfold hw; rw [if_pos rfl, if_pos hs]
    have e2 : hw m 614 (fun b => if b < 8 then 0 else m 614 b) 614 s = 0 := by unfold hw; rw [if_pos rfl, if_pos hs]
    rw [e1, e2, show (0 : Int32).toInt = 0 from by decide]
    exact ⟨t9, rfl, by omega, by omega⟩
end ST
