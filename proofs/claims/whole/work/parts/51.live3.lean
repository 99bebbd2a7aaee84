/-! ===== an hour: a tier lives, by kind ===== -/
theorem mod2 {n : Nat} (h : n < 2 ^ 31) : nI n % 2 = nI (n % 2) := by
  refine Int32.toInt_inj.mp ?_
  rw [Int32.toInt_mod, show (2 : Int32).toInt = 2 from by decide, nI_toInt h, nI_toInt (by omega), Int.tmod_eq_emod_of_nonneg (by omega)]
  omega
theorem dbl {v : Int32} (h0 : 0 ≤ v.toInt) (h1 : v.toInt ≤ 999) : 0 ≤ (2 * v).toInt := by
  rw [Int32.toInt_mul, show (2 : Int32).toInt = 2 from by decide, Int.bmod_eq_of_le (by omega) (by omega)]
  omega
set_option maxHeartbeats 4000000 in
theorem live2 {c t hr : Nat} {x m : Hp} (hc : c < 11) (ht : t < 4) (hb : hr < 1000000) (T : tierOK hr c t (mix x m)) (hh : x (cI c (3 + t)) 0 = m 630 (4 * c + t)) (hT : ∀ j, j < 10 → x 14 j = m 616 j ∧ 0 ≤ (m 616 j).toInt ∧ (m 616 j).toInt ≤ 999) (hk : ¬ m 631 (4 * c + t) = -1) :
    ∃ r x' m', ex 37 0 [.ref (cI c (3 + t)), .ref 14, .null] [] x = some (some (.int (r * m 632 (4 * c + t))), x') ∧ ex 130 0 [.ref 600, .int (nI (4 * c + t)), .null, .null] [] m = some (some (.int r), m') ∧ (∀ a b, ¬ (a = cI c (3 + t) ∧ 3 ≤ b ∧ b ≤ 5) → x' a b = x a b) ∧ (∀ a b, ¬ (633 ≤ a ∧ a ≤ 635 ∧ b = 4 * c + t) → m' a b = m a b) ∧ tierOK (hr + 1) c t (mix x' m') := by
  have q4 : 4 * c + t < 44 := by omega
  have M0 : ∀ (y z : Hp) a j, 600 ≤ a ∧ a < 700 → mix y z a j = z a j := fun y z a j h => by rw [mix_M h]
  unfold tierOK at T
  simp only [mix_cI] at T
  rw [M0 _ _ 631 _ (by decide), M0 _ _ 632 _ (by decide), M0 _ _ 633 _ (by decide), M0 _ _ 634 _ (by decide), M0 _ _ 635 _ (by decide)] at T
  obtain ⟨e1, l, hl, e5, D⟩ := T
  rcases D with D | ⟨kn, k4, k2, bk, lf, r1, r2, r3⟩
  · exact absurd D.1 hk
  have k1 : x (cI c (3 + t)) 1 = nI kn := e1.trans k2
  have l5 : hu m 635 (4 * c + t) (m 635 (4 * c + t) + 1) 635 (4 * c + t) = nI (l + 1) := by rw [hu_at, e5, nI_1]
  have mo : ∀ a b, ¬ ((a = 634 ∨ a = 635) ∧ b = 4 * c + t) → hu m 635 (4 * c + t) (m 635 (4 * c + t) + 1) a b = m a b := fun a b h => by rw [hu_if, if_neg (by omega)]
  have m4' : hu m 635 (4 * c + t) (m 635 (4 * c + t) + 1) 634 (4 * c + t) = m 634 (4 * c + t) := hu_k (by decide)
  have TL : ∀ w, x 14 (lx w) = m 616 (lx w) ∧ 0 ≤ (m 616 (lx w)).toInt ∧ (m 616 (lx w)).toInt ≤ 999 := fun w => hT _ (lx_lt w)
  rcases (show kn = 0 ∨ kn = 1 ∨ kn = 2 ∨ kn = 3 ∨ kn = 4 by omega) with rfl | rfl | rfl | rfl | rfl
  · have eX := T_loss0 hc ht k1
    rw [hh, (TL _).1] at eX
    exact live_mk hc ht ((TL _).2.1) eX (M_lose0 q4 k2) (fun a b h => rfl) mo k1 k2 k4 lf bk (by omega) l5 (fun h => absurd h (by decide)) r2 (fun h => absurd h (by decide))
  · have eX := T_loss1 hc ht k1
    rw [hh, (TL _).1] at eX
    exact live_mk hc ht (dbl (TL _).2.1 (TL _).2.2) eX (M_lose1 q4 k2) (fun a b h => rfl) mo k1 k2 k4 lf bk (by omega) l5 (fun h => absurd h (by decide)) r2 (fun h => absurd h (by decide))
  · obtain ⟨p1, p2, p3⟩ := r1 rfl
    by_cases z : m 634 (4 * c + t) = 0
    · have eX := T_loss2 hc ht k1 (by rw [p1, z]; decide)
      rw [hh, (TL _).1] at eX
      exact live_mk hc ht (TL _).2.1 eX (M_lose2 q4 k2 z) (fun a b h => rfl) mo k1 k2 k4 lf bk (by omega) l5 (fun _ => by rw [m4']; exact ⟨p1, p2, p3⟩) r2 (fun h => absurd h (by decide))
    · have z0 : (m 634 (4 * c + t)).toInt ≠ 0 := fun w => z (Int32.toInt_inj.mp (by rw [w]; rfl))
      have zp : 0 < x (cI c (3 + t)) 4 := by
        rw [p1]
        refine Int32.lt_iff_toInt_lt.mpr ?_
        rw [show (0 : Int32).toInt = 0 from by decide]
        omega
      by_cases y : m 630 (4 * c + t) < 100
      · have eX := T_loss2a hc ht k1 zp (by rw [hh]; exact y)
        exact live_mk hc ht (by decide) eX (M_lose2a q4 k2 z y) (fun a b h => rfl) mo k1 k2 k4 lf bk (by omega) l5 (fun _ => by rw [m4']; exact ⟨p1, p2, p3⟩) r2 (fun h => absurd h (by decide))
      · have eX := T_loss2b hc ht k1 zp (by rw [hh]; exact y)
        refine live_mk (l := l + 1) hc ht (by decide) eX (M_lose2b q4 k2 z y) (fun a b h => by rw [hu_if, if_neg (by omega)]) (fun a b h => by rw [hu_if, if_neg (by omega)]; exact mo a b h) k1 k2 k4 lf bk (by omega) (by rw [hu_k (by decide)]; exact l5) (fun _ => ?_) (fun h => absurd rfl h) (fun h => absurd h (by decide))
        rw [hu_at, hu_at, p1, i_sub (by rw [show (1 : Int32).toInt = 1 from by decide]; omega) (by rw [show (1 : Int32).toInt = 1 from by decide]; omega), show (1 : Int32).toInt = 1 from by decide]
        exact ⟨rfl, by omega, by omega⟩
  · have eX := T_loss3 hc ht k1
    rw [hh, (TL _).1] at eX
    exact live_mk hc ht ((TL _).2.1) eX (M_lose3 q4 k2) (fun a b h => rfl) mo k1 k2 k4 lf bk (by omega) l5 (fun h => absurd h (by decide)) r2 (fun h => absurd h (by decide))
  · have o := r3 rfl
    have md : (m 635 (4 * c + t) + 1) % 2 = nI ((l + 1) % 2) := by rw [e5, nI_1, mod2 (by omega)]
    by_cases z : l % 2 = 1
    · rw [if_pos z] at o
      have eX := T_loss4a hc ht k1 o
      rw [hh, (TL _).1, Int32.one_mul] at eX
      have eM := M_lose4a q4 k2 (m := m) (by rw [md, show (l + 1) % 2 = 0 by omega]; decide)
      rw [Int32.mul_one] at eM
      exact live_mk hc ht (TL _).2.1 eX eM (fun a b h => by rw [hu_if, if_neg (by omega)]) mo k1 k2 k4 lf bk (by omega) l5 (fun h => absurd h (by decide)) (fun h => by rw [hu_j (by decide)]; exact r2 h) (fun _ => by rw [hu_at, if_neg (by omega)])
    · rw [if_neg z] at o
      have eX := T_loss4b hc ht k1 o
      rw [hh, (TL _).1] at eX
      have eM := M_lose4b q4 k2 (m := m) (by rw [md, show (l + 1) % 2 = 1 by omega]; decide)
      rw [Int32.mul_comm] at eM
      exact live_mk hc ht (dbl (TL _).2.1 (TL _).2.2) eX eM (fun a b h => by rw [hu_if, if_neg (by omega)]) mo k1 k2 k4 lf bk (by omega) l5 (fun h => absurd h (by decide)) (fun h => by rw [hu_j (by decide)]; exact r2 h) (fun _ => by rw [hu_at, if_pos (by omega)])
