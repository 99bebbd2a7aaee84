/-! ===== an hour of one car: what class and reference share ===== -/
/-- what an hour doesn't change: weather, gangs, lateness, losses, legs, rules -/
def Sta (ns nr : Nat) (x m : Hp) : Prop := (∀ s, s < 8 → ∀ t, t < 48 → x (sI s 2) t = wfill (fun q => m 615 (48 * s + q)) t ∧ -400 ≤ (wfill (fun q => m 615 (48 * s + q)) t).toInt ∧ (wfill (fun q => m 615 (48 * s + q)) t).toInt ≤ 500)
  ∧ (∀ s, s < 8 → (x (sI s 0) 4 = m 611 s ∧ 0 ≤ (m 611 s).toInt ∧ (m 611 s).toInt ≤ 100) ∧ x (sI s 0) 6 = m 613 s ∧ 0 ≤ (m 613 s).toInt ∧ (m 613 s).toInt ≤ 48)
  ∧ (∀ j, j < 10 → x 14 j = m 616 j ∧ 0 ≤ (m 616 j).toInt ∧ (m 616 j).toInt ≤ 999) ∧ (x 0 13 = nI nr ∧ m 600 3 = nI nr ∧ nr ≤ 10) ∧ I3 ns (mix x m) ∧ I7 nr (mix x m) ∧ ns ≤ 8
/-- the ice at the stations -/
def IceR (ia : Nat) (x m : Hp) : Prop := ∀ s, s < 8 → (x (ia + 1) s = m 610 s ∧ 0 ≤ (m 610 s).toInt ∧ (m 610 s).toInt ≤ 100000) ∧ x (ia + 2) s = m 614 s ∧ 0 ≤ (m 614 s).toInt ∧ (m 614 s).toInt ≤ (m 611 s).toInt
def pA (n c : Nat) (x m : Hp) : Prop := x (cI c 0) 2 = nI n ∧ x (cI c 0) 3 = m 617 c ∧ 1 ≤ (m 617 c).toInt ∧ (m 617 c).toInt ≤ 40
def pB (c : Nat) (x m : Hp) : Prop := x (cI c 0) 4 = m 618 c ∧ 0 ≤ (m 618 c).toInt ∧ (m 618 c).toInt ≤ 100
def pV (c : Nat) (x m : Hp) : Prop := x (cI c 0) 5 = m 619 c ∧ (m 619 c = 0 ∨ m 619 c = 1)
/-- where the car is and goes -/
def pW (ns c : Nat) (x m : Hp) : Prop := ∃ p, p < ns ∧ x (cI c 0) 6 = nI p ∧ m 620 c = nI p ∧ x (cI c 0) 7 = m 623 c ∧ (x (cI c 0) 8 = m 622 c ∧ 0 ≤ (m 622 c).toInt ∧ (m 622 c).toInt ≤ 12) ∧ (x (cI c 0) 9 = m 624 c ∧ 0 ≤ (m 624 c).toInt ∧ (m 624 c).toInt ≤ 48)
  ∧ ((m 623 c = -1 ∧ m 622 c = 0 ∧ m 624 c = 0) ∨ ∃ e, e < ns ∧ e ≠ p ∧ m 623 c = nI e ∧ (m 622 c = 0 ∨ (m 624 c = 0 ∧ m 621 c = nI (nx p e))))
def pT (hr c t : Nat) (x m : Hp) : Prop := (x (cI c (3 + t)) 0 = m 630 (4 * c + t) ∧ -4440 ≤ (m 630 (4 * c + t)).toInt ∧ (m 630 (4 * c + t)).toInt ≤ 500) ∧ tierOK hr c t (mix x m)
def Cor (ns hr n c : Nat) (x m : Hp) : Prop := pA n c x m ∧ pB c x m ∧ pV c x m ∧ pW ns c x m ∧ ∀ t, t < 4 → pT hr c t x m
/-- what no hour reads, and calls tell -/
def Ext (ia c : Nat) (x m : Hp) : Prop := x (cI c 0) 10 = m 625 c ∧ (x (cI c 0) 11 = (if 0 < m 626 c then 1 else 0) ∧ 0 ≤ m 626 c) ∧ (x (cI c 0) 12 = m 627 c ∧ (m 627 c = 0 ∨ m 627 c = 1)) ∧ (x (cI c 0) 13 = m 628 c ∧ (m 628 c = 0 ∨ m 628 c = 1)) ∧ (∀ p, p < 3 → x (cI c 2) p = m 629 (3 * c + p)) ∧ x ia 2 = m 600 5 ∧ x ia 3 = m 600 6
/-- the cells that an hour of car c may change -/
def xF (ia c a : Nat) : Prop := (∃ z, z < 7 ∧ a = cI c z) ∨ a = ia ∨ a = ia + 1 ∨ a = ia + 2 ∨ a = 15
def mF (c a b : Nat) : Prop := cM c a b ∨ a = 610 ∨ a = 614 ∨ (a = 600 ∧ (b = 5 ∨ b = 6))
section FR
variable {ia c n ns nr hr : Nat} {x m x' m' : Hp}
theorem xF_s {s j : Nat} (hia : ia = 8 ∨ ia = 11) : ¬ xF ia c (sI s j) := by
  intro h
  rcases h with ⟨z, hz, h⟩ | h | h | h | h <;> unfold sI at h <;> (try unfold cI at h) <;> omega
theorem xF_r {s j : Nat} (hia : ia = 8 ∨ ia = 11) : ¬ xF ia c (rI s j) := by
  intro h
  rcases h with ⟨z, hz, h⟩ | h | h | h | h <;> unfold rI at h <;> (try unfold cI at h) <;> omega
theorem xF_l {a : Nat} (hia : ia = 8 ∨ ia = 11) (h0 : a < 8 ∨ a = 14 ∨ a = 16) : ¬ xF ia c a := by
  intro h
  rcases h with ⟨z, hz, h⟩ | h | h | h | h <;> (try unfold cI at h) <;> omega
theorem mF_l {a b : Nat} (h0 : a < 617 ∨ 635 < a) (h1 : a ≠ 610) (h2 : a ≠ 614) (h4 : a = 600 → b ≠ 5 ∧ b ≠ 6) : ¬ mF c a b := by
  intro h; unfold mF cM at h; omega
theorem Sta_c (hia : ia = 8 ∨ ia = 11) (eX : ∀ a b, ¬ xF ia c a → x' a b = x a b) (eM : ∀ a b, ¬ mF c a b → m' a b = m a b) (S : Sta ns nr x m) : Sta ns nr x' m' := by
  have fs : ∀ s j b, x' (sI s j) b = x (sI s j) b := fun s j b => eX _ b (xF_s hia)
  have f15 : ∀ b, m' 615 b = m 615 b := fun b => eM _ b (mF_l (by omega) (by decide) (by decide) (by omega))
  have f11 : ∀ b, m' 611 b = m 611 b := fun b => eM _ b (mF_l (by omega) (by decide) (by decide) (by omega))
  have f13 : ∀ b, m' 613 b = m 613 b := fun b => eM _ b (mF_l (by omega) (by decide) (by decide) (by omega))
  have f16 : ∀ b, m' 616 b = m 616 b := fun b => eM _ b (mF_l (by omega) (by decide) (by decide) (by omega))
  obtain ⟨s1, s2, s3, s4, s5, s6, s7⟩ := S
  refine ⟨?_, ?_, ?_, ⟨?_, ?_, s4.2.2⟩, I3_c (fun a b hd => ?_) s5, I7_c (fun a b hd => ?_) s6, s7⟩
  · intro s hs t ht
    rw [fs]
    simp only [f15]
    exact s1 s hs t ht
  · intro s hs
    rw [fs, fs, f11, f13]
    exact s2 s hs
  · intro j hj
    rw [eX 14 j (xF_l hia (by omega)), f16]
    exact s3 j hj
  · rw [eX 0 13 (xF_l hia (by omega))]; exact s4.1
  · rw [eM 600 3 (mF_l (by omega) (by decide) (by decide) (by omega))]; exact s4.2.1
  · rcases hd with rfl | ⟨s, rfl, rfl⟩
    · rw [mix_609, mix_609]; exact eM _ _ (mF_l (by omega) (by decide) (by decide) (by omega))
    · rw [mix_sI, mix_sI]; exact fs _ _ _
  · rcases hd with hd | ⟨r, j, rfl⟩
    · rw [mix_M (by omega), mix_M (by omega)]; exact eM _ _ (mF_l (by omega) (by omega) (by omega) (by omega))
    · rw [mix_rI, mix_rI]; exact eX _ _ (xF_r hia)
theorem IceR_c (e1 : ∀ s, x' (ia + 1) s = x (ia + 1) s) (e2 : ∀ s, x' (ia + 2) s = x (ia + 2) s) (e3 : ∀ s, m' 610 s = m 610 s) (e4 : ∀ s, m' 614 s = m 614 s) (e5 : ∀ s, m' 611 s = m 611 s) (R : IceR ia x m) : IceR ia x' m' := by
  intro s hs
  rw [e1, e2, e3, e4, e5]
  exact R s hs
theorem pA_c (e1 : ∀ b, b = 2 ∨ b = 3 → x' (cI c 0) b = x (cI c 0) b) (e2 : m' 617 c = m 617 c) (R : pA n c x m) : pA n c x' m' := by
  unfold pA
  rw [e1 2 (by omega), e1 3 (by omega), e2]
  exact R
theorem pB_c (e1 : x' (cI c 0) 4 = x (cI c 0) 4) (e2 : m' 618 c = m 618 c) (R : pB c x m) : pB c x' m' := by
  unfold pB
  rw [e1, e2]
  exact R
theorem pV_c (e1 : x' (cI c 0) 5 = x (cI c 0) 5) (e2 : m' 619 c = m 619 c) (R : pV c x m) : pV c x' m' := by
  unfold pV
  rw [e1, e2]
  exact R
theorem pW_c (e1 : ∀ b, 6 ≤ b → b ≤ 9 → x' (cI c 0) b = x (cI c 0) b) (e2 : ∀ a, 620 ≤ a → a ≤ 624 → m' a c = m a c) (R : pW ns c x m) : pW ns c x' m' := by
  unfold pW
  rw [e1 6 (by omega) (by omega), e1 7 (by omega) (by omega), e1 8 (by omega) (by omega), e1 9 (by omega) (by omega), e2 620 (by omega) (by omega), e2 621 (by omega) (by omega), e2 622 (by omega) (by omega), e2 623 (by omega) (by omega), e2 624 (by omega) (by omega)]
  exact R
theorem pT_c {t : Nat} (e1 : ∀ b, b ≤ 5 → x' (cI c (3 + t)) b = x (cI c (3 + t)) b) (e2 : ∀ a, 630 ≤ a → a ≤ 635 → m' a (4 * c + t) = m a (4 * c + t)) (R : pT hr c t x m) : pT hr c t x' m' := by
  refine ⟨?_, tierOK_c (fun b h1 h2 => ?_) (fun a h1 h2 => ?_) R.2⟩
  · rw [e1 0 (by omega), e2 630 (by omega) (by omega)]; exact R.1
  · rw [mix_cI, mix_cI]; exact e1 b h2
  · rw [mix_M (by omega), mix_M (by omega)]; exact e2 a (by omega) h2
end FR
/-! ===== the outside ===== -/
def wM (m : Hp) (s : Nat) (u : Int32) : Int32 := wfill (fun q => m 615 (48 * s + q)) (u.toInt.toNat % 48)
def oM (m : Hp) (c : Nat) (u : Int32) : Int32 := if m 622 c = 0 then wM m (m 620 c).toInt.toNat u else (wM m (m 620 c).toInt.toNat u + wM m (m 621 c).toInt.toNat u) / 2
theorem oM_c {m m' : Hp} {c : Nat} {u : Int32} (e1 : ∀ b, m' 615 b = m 615 b) (e2 : m' 620 c = m 620 c) (e3 : m' 621 c = m 621 c) (e4 : m' 622 c = m 622 c) : oM m' c u = oM m c u := by
  unfold oM wM
  rw [e2, e3, e4]
  simp only [e1]
theorem nI_tn {p : Nat} (h : p < 100000) : (nI p).toInt.toNat = p := by rw [nI_int h]; omega
/-- left of a leg: not nought is above nought -/
theorem pos_ne {v : Int32} (h0 : 0 ≤ v.toInt) : (0 < v) ↔ ¬ v = 0 := by
  rw [Int32.lt_iff_toInt_lt, show (0 : Int32).toInt = 0 from by decide]
  constructor
  · intro h e
    rw [e, show (0 : Int32).toInt = 0 from by decide] at h
    omega
  · intro h
    have : v.toInt ≠ 0 := fun e => h (Int32.toInt_inj.mp (by rw [e]; rfl))
    omega
/-- a quotient cut towards nought -/
theorem td_p {a k : Int} (h : 0 ≤ a) : a.tdiv k = a / k := Int.tdiv_eq_ediv_of_nonneg h
theorem td_n {a k : Int} (h : a ≤ 0) : a.tdiv k = -(-a / k) := by
  have := Int.neg_tdiv (a := -a) (b := k)
  rw [Int.neg_neg] at this
  rw [this, td_p (by omega)]
theorem hlf {a b : Int32} (h1 : -400 ≤ a.toInt) (h2 : a.toInt ≤ 500) (h3 : -400 ≤ b.toInt) (h4 : b.toInt ≤ 500) : -400 ≤ ((a + b) / 2).toInt ∧ ((a + b) / 2).toInt ≤ 500 := by
  rw [Int32.toInt_div, show (2 : Int32).toInt = 2 from by decide, i_add (by omega) (by omega)]
  rcases Int.le_total 0 (a.toInt + b.toInt) with z | z
  · rw [td_p z, Int.bmod_eq_of_le (by omega) (by omega)]
    omega
  · rw [td_n z, Int.bmod_eq_of_le (by omega) (by omega)]
    omega
section OUT
variable {ns nr c : Nat} {x m : Hp} {u : Int32}
theorem two_o (hc : c < 11) (hu : 0 ≤ u) (S : Sta ns nr x m) (W : pW ns c x m) : ex 72 0 [.ref 0, .ref (cI c 0), .int u, .null] [] x = some (some (.int (oM m c u)), x) ∧ ex 129 0 [.ref 600, .int (nI c), .int u] [] m = some (some (.int (oM m c u)), m) ∧ -400 ≤ (oM m c u).toInt ∧ (oM m c u).toInt ≤ 500 := by
  obtain ⟨s1, s2, s3, s4, s5, s6, s7⟩ := S
  obtain ⟨p, hp, w6, w20, w7, ⟨w8, l0, l1⟩, w9, D⟩ := W
  have p8 : p < 8 := by omega
  have tp : (m 620 c).toInt.toNat = p := by rw [w20]; exact nI_tn (by omega)
  have t48 : u.toInt.toNat % 48 < 48 := Nat.mod_lt _ (by decide)
  by_cases z : m 622 c = 0
  · have X := X_outside hc p8 hu w6 (by rw [w8, z]; decide)
    have M := M_outside hc p8 hu w20 z
    have R := s1 p p8 _ t48
    rw [R.1] at X
    have e : oM m c u = wfill (fun q => m 615 (48 * p + q)) (u.toInt.toNat % 48) := by unfold oM wM; rw [if_pos z, tp]
    rw [e]
    exact ⟨X, M, R.2⟩
  · rcases D with D | ⟨e, he, hne, e7, D⟩
    · exact absurd D.2.1 z
    rcases D with D | ⟨-, d21⟩
    · exact absurd D z
    have e8 : e < 8 := by omega
    have x8 := nx_lt p8 e8 hne
    have tx : (m 621 c).toInt.toNat = nx p e := by rw [d21]; exact nI_tn (by omega)
    have X := X_outsideL hc p8 e8 hne hu w6 (by rw [w7, e7]) (by rw [w8]; exact (pos_ne l0).mpr z)
    have M := M_outsideL hc p8 x8 hu w20 d21 z
    have R := s1 p p8 _ t48
    have R' := s1 _ x8 _ t48
    rw [R.1, R'.1] at X
    have e : oM m c u = (wfill (fun q => m 615 (48 * p + q)) (u.toInt.toNat % 48) + wfill (fun q => m 615 (48 * nx p e + q)) (u.toInt.toNat % 48)) / 2 := by unfold oM wM; rw [if_neg z, tp, tx]
    rw [e]
    exact ⟨X, M, hlf R.2.1 R.2.2 R'.2.1 R'.2.2⟩
end OUT
