/-! ===== the first heap: what the constructors leave, by the objects' numbers ===== -/
def isX (k : Nat) : Bool := decide (k < 17) || decide (1000 ≤ k)
def idX (p : Nat) : Nat := if p < 11 then p else if p < 14 then p + 3 else if p < 21 then 1001 + 3 * (100 + (p - 14)) else if p < 24 then p - 10 else if p < 64 then 1000 + 3 * (10 * ((p - 24) / 5) + (p - 24) % 5) else if p < 134 then 1001 + 3 * (10 * ((p - 64) / 7) + (p - 64) % 7) else 1002 + 3 * (10 * ((p - 134) / 4) + (p - 134) % 4)
def posX (k : Nat) : Nat := if k < 11 then k else if k < 14 then k + 10 else if k < 17 then k - 3 else if (k - 1000) % 3 = 0 then 24 + 5 * ((k - 1000) / 30) + (k - 1000) / 3 % 10 else if (k - 1000) % 3 = 1 then (if (k - 1000) / 30 = 10 then 14 + (k - 1000) / 3 % 10 else 64 + 7 * ((k - 1000) / 30) + (k - 1000) / 3 % 10) else 134 + 4 * ((k - 1000) / 30) + (k - 1000) / 3 % 10
def idM (p : Nat) : Nat := if p = 0 then 600 else if p < 30 then p + 608 else if p < 42 then p + 609 else 654
def posM (k : Nat) : Nat := if k = 600 then 0 else if k < 638 then k - 608 else if k < 651 then k - 609 else 42
def dG : GE := .inr (.inl (0, []))
def cl0 (k : Nat) : GE := if isX k = true then GX.getD (posX k) dG else GM.getD (posM k) dG
def h0 : Hp := fun k j => match cl0 k with
  | .inl x => (match x.2.getD j .null with
    | .int v => v
    | _ => 0)
  | .inr (.inl x) => x.2.getD j 0
  | .inr (.inr _) => 0
def chk (id : Nat → Nat) (n k : Nat) (x : GE) : Bool := match x with
  | .inl x => (decide (x.1 = kd k) && decide (kd k < 9) && decide (x.2.length = NF (kd k))) && (List.range (NF (kd k))).all (fun j => match x.2.getD j .null with
    | .int _ => decide (rf k j = none)
    | .ref p => decide (rf k j = some (id p)) && decide (p < n)
    | _ => false)
  | .inr (.inl x) => decide (x.1 = kd k) && decide (9 ≤ kd k) && decide (kd k < 11) && decide (x.2.length = ln k)
  | .inr (.inr x) => (decide (x.1 = kd k) && decide (11 ≤ kd k) && decide (kd k ≤ 14) && decide (x.2.length = ln k)) && (List.range (ln k)).all (fun j => match x.2.getD j none with
    | some p => decide (rf k j = some (id p)) && decide (p < n)
    | none => false)
theorem ra_at : ∀ k, k < 1400 → 11 ≤ kd k → kd k ≤ 14 → k = 1 ∨ k = 2 ∨ k = 3 ∨ ((k = 1004 + 30 * ((k - 1000) / 30)) ∧ ln k = 4) := by decide +kernel
theorem rf_hi {k : Nat} (h1 : 11 ≤ kd k) (h2 : kd k ≤ 14) {j : Nat} (hj : ln k ≤ j) : rf k j = none := by
  have hk : k < 1400 := by
    rcases Nat.lt_or_ge k 1400 with h | h
    · exact h
    · rw [kd_hi k h] at h2
      omega
  rcases ra_at k hk h1 h2 with rfl | rfl | rfl | ⟨e1, e2⟩
  · have hj : 8 ≤ j := hj
    show (if j < 8 then _ else none) = none
    rw [if_neg (by omega)]
  · have hj : 10 ≤ j := hj
    show (if j < 10 then _ else none) = none
    rw [if_neg (by omega)]
  · have hj : 10 ≤ j := hj
    show (if j < 10 then _ else none) = none
    rw [if_neg (by omega)]
  · rw [e2] at hj
    unfold rf
    rw [if_neg (by omega), if_neg (by omega), if_pos (by omega), if_neg (by omega), if_pos (by omega), if_neg (by omega)]
theorem ent_side {cA : Nat → ClassId} {ad adS id : Nat → Nat} {n k : Nat} {x : GE} (hx : cl0 k = x) (hc : chk id n k x = true) (had : ∀ p, p < n → ad (id p) = adS p) : ent cA ad h0 k = eG cA adS x := by
  rcases x with ⟨ci, fs⟩ | ⟨kn, xs⟩ | ⟨kn, rs⟩
  · simp only [chk, Bool.and_eq_true, decide_eq_true_eq, List.all_eq_true, List.mem_range] at hc
    obtain ⟨⟨⟨h1, h2⟩, h3⟩, h4⟩ := hc
    rw [ent_obj rfl h2]
    show Sum.inr (kd k, _) = Sum.inr (ci, fs.map (cv adS))
    rw [h1]
    congr 2
    apply List.ext_getElem?
    intro j
    by_cases hj : j < NF (kd k)
    · have hf : fs[j]? = some (fs.getD j .null) := by
        rw [List.getD_eq_getElem?_getD, List.getElem?_eq_getElem (by omega)]
        rfl
      have h4 := h4 j hj
      rw [List.getElem?_map, List.getElem?_map, List.getElem?_range hj, hf]
      show some (cv ad (vl h0 k j)) = some (cv adS (fs.getD j .null))
      congr 1
      cases hv : fs.getD j .null with
      | int v =>
        rw [hv] at h4
        have h4 : rf k j = none := by simpa using h4
        have e0 : h0 k j = v := by
          unfold h0
          rw [hx]
          show (match fs.getD j .null with | .int v => v | _ => 0) = v
          rw [hv]
        unfold vl
        rw [h4, e0]
        rfl
      | ref p =>
        rw [hv] at h4
        have h4 : rf k j = some (id p) ∧ p < n := by simpa using h4
        unfold vl
        rw [h4.1]
        show Value.ref (ad (id p)) = Value.ref (adS p)
        rw [had p h4.2]
      | _ =>
        rw [hv] at h4
        simp at h4
    · rw [List.getElem?_eq_none (by simp; omega), List.getElem?_eq_none (by simp; omega)]
  · simp only [chk, Bool.and_eq_true, decide_eq_true_eq] at hc
    obtain ⟨⟨⟨h1, h2⟩, h3⟩, h4⟩ := hc
    rw [ent_num (by omega)]
    show Sum.inl (cA (kd k), ln k, Sum.inl (h0 k)) = Sum.inl (cA kn, xs.length, Sum.inl (fun j => xs.getD j 0))
    have e0 : h0 k = fun j => xs.getD j 0 := by
      funext j
      unfold h0
      rw [hx]
    rw [h1, h4, e0]
  · simp only [chk, Bool.and_eq_true, decide_eq_true_eq, List.all_eq_true, List.mem_range] at hc
    obtain ⟨⟨⟨⟨h1, h2⟩, h3⟩, h4⟩, h5⟩ := hc
    rw [ent_ref h2]
    show Sum.inl (cA (kd k), ln k, Sum.inr (Sum.inr (Sum.inr (Sum.inr (fun j => (rf k j).map ad))))) = Sum.inl (cA kn, rs.length, Sum.inr (Sum.inr (Sum.inr (Sum.inr (fun j => (rs.getD j none).map adS)))))
    have e0 : (fun j => (rf k j).map ad) = fun j => (rs.getD j none).map adS := by
      funext j
      by_cases hj : j < ln k
      · have h5 := h5 j hj
        cases hv : rs.getD j none with
        | none =>
          rw [hv] at h5
          simp at h5
        | some p =>
          rw [hv] at h5
          have h5 : rf k j = some (id p) ∧ p < n := by simpa using h5
          rw [h5.1]
          show some (ad (id p)) = some (adS p)
          rw [had p h5.2]
      · rw [rf_hi h2 h3 (by omega), List.getD_eq_getElem?_getD, List.getElem?_eq_none (by omega)]
        rfl
    rw [h1, h4, e0]
def adW (adX adM adK : Nat → Nat) : Nat → Nat := fun k => if isX k = true then adX (posX k) else if k < 700 then adM (posM k) else adK k
theorem idX_ok : ∀ p, p < 174 → isX (idX p) = true ∧ posX (idX p) = p := by decide +kernel
theorem idM_ok : ∀ p, p < 43 → isX (idM p) = false ∧ idM p < 700 ∧ posM (idM p) = p := by decide +kernel
theorem GX_len : GX.length = 174 := by decide +kernel
theorem GM_len : GM.length = 44 := by decide +kernel
theorem all_X : ∀ k, k < 1400 → kd k < 90 → isX k = true → posX k < 174 ∧ idX (posX k) = k ∧ chk idX 174 k (GX.getD (posX k) dG) = true := by decide +kernel
theorem all_M : ∀ k, k < 1400 → kd k < 90 → isX k = false → k < 700 ∧ posM k < 43 ∧ idM (posM k) = k ∧ chk idM 43 k (GM.getD (posM k) dG) = true := by decide +kernel
theorem kd_lt {k : Nat} (h : kd k < 90) : k < 1400 := by
  rcases Nat.lt_or_ge k 1400 with h1 | h1
  · exact h1
  · rw [kd_hi k h1] at h
    omega
section FIRST
variable {D : va_G} {cA : Nat → ClassId} {adX adM adK : Nat → Nat} {S0 S1 : Nat} {H : Heap}
theorem adW_X {k : Nat} (h : isX k = true) : adW adX adM adK k = adX (posX k) := by unfold adW; rw [if_pos h]
theorem adW_M {k : Nat} (h : isX k = false) (h2 : k < 700) : adW adX adM adK k = adM (posM k) := by unfold adW; rw [h, if_neg (by decide), if_pos h2]
theorem first_X {k : Nat} (hk : kd k < 90) (hi : isX k = true) : (gwd cA adX GX)[posX k]? = some (adW adX adM adK k, ent cA (adW adX adM adK) h0 k) := by
  obtain ⟨h1, h2, h3⟩ := all_X k (kd_lt hk) hk hi
  have hg : GX[posX k]? = some (GX.getD (posX k) dG) := by
    rw [List.getD_eq_getElem?_getD, List.getElem?_eq_getElem (by rw [GX_len]; exact h1)]
    rfl
  rw [gw_get hg, adW_X hi, ent_side (adS := adX) (by unfold cl0; rw [if_pos hi]) h3 (fun p hp => by rw [adW_X (idX_ok p hp).1, (idX_ok p hp).2])]
theorem first_M {k : Nat} (hk : kd k < 90) (hi : isX k = false) : (gwd cA adM GM)[posM k]? = some (adW adX adM adK k, ent cA (adW adX adM adK) h0 k) := by
  obtain ⟨h0', h1, h2, h3⟩ := all_M k (kd_lt hk) hk hi
  have hg : GM[posM k]? = some (GM.getD (posM k) dG) := by
    rw [List.getD_eq_getElem?_getD, List.getElem?_eq_getElem (by rw [GM_len]; omega)]
    rfl
  rw [gw_get hg, adW_M hi h0', ent_side (adS := adM) (by unfold cl0; rw [hi, if_neg (by decide)]) h3 (fun p hp => by rw [adW_M (idM_ok p hp).1 (idM_ok p hp).2.1, (idM_ok p hp).2.2])]
theorem first_ok (hPX : va_P D vwCl (gwd cA adX GX) H) (hDX : va_D (AS S0) (gwd cA adX GX)) (hPM : va_P D vwCl (gwd cA adM GM) H) (hDM : va_D (AS S1) (gwd cA adM GM)) (hS : S0 ≤ S1) (hlt : ∀ (k : Nat) (q : Nat × va_E), (gwd cA adX GX)[k]? = some q → q.1 < S1) :
    va_P D vwCl (wl cA (adW adX adM adK) h0) H ∧ va_D (ow (adW adX adM adK)) (wl cA (adW adX adM adK) h0) ∧ ∀ k, kd k < 90 → S0 ≤ adW adX adM adK k := by
  have key : ∀ (i : Nat) (q : Nat × va_E), (wl cA (adW adX adM adK) h0)[i]? = some q → ∃ k, Ks[i]? = some k ∧ kd k < 90 ∧ q = (adW adX adM adK k, ent cA (adW adX adM adK) h0 k) := by
    intro i q hq
    cases hk : Ks[i]? with
    | none => simp [wl, List.getElem?_map, hk] at hq
    | some k =>
      rw [wl_get hk] at hq
      cases hq
      exact ⟨k, rfl, Ks_kd hk, rfl⟩
  have low : ∀ k, kd k < 90 → S0 ≤ adW adX adM adK k := by
    intro k hk
    cases hi : isX k with
    | true => exact hDX.2 _ _ (first_X (adM := adM) (adK := adK) hk hi)
    | false => exact Nat.le_trans hS (hDM.2 _ _ (first_M (adX := adX) (adK := adK) hk hi))
  refine ⟨fun i q hq => ?_, ⟨fun i j p q hp hq hpq => ?_, fun i q hq => ?_⟩, low⟩
  · obtain ⟨k, -, hk, rfl⟩ := key i q hq
    cases hi : isX k with
    | true => exact hPX _ _ (first_X hk hi)
    | false => exact hPM _ _ (first_M hk hi)
  · obtain ⟨k, e1, hk, rfl⟩ := key i p hp
    obtain ⟨k', e2, hk', rfl⟩ := key j q hq
    have hpq : adW adX adM adK k = adW adX adM adK k' := hpq
    have : k = k' := by
      cases hi : isX k with
      | true =>
        cases hi' : isX k' with
        | true =>
          have := hDX.1 _ _ _ _ (first_X (adM := adM) (adK := adK) hk hi) (first_X (adM := adM) (adK := adK) hk' hi') hpq
          rw [← (all_X k (kd_lt hk) hk hi).2.1, ← (all_X k' (kd_lt hk') hk' hi').2.1, this]
        | false =>
          have a1 := hlt _ _ (first_X (adM := adM) (adK := adK) hk hi)
          have a2 : S1 ≤ adW adX adM adK k' := hDM.2 _ _ (first_M (adX := adX) (adK := adK) hk' hi')
          have a1 : adW adX adM adK k < S1 := a1
          omega
      | false =>
        cases hi' : isX k' with
        | true =>
          have a1 : adW adX adM adK k' < S1 := hlt _ _ (first_X (adM := adM) (adK := adK) hk' hi')
          have a2 : S1 ≤ adW adX adM adK k := hDM.2 _ _ (first_M (adX := adX) (adK := adK) hk hi)
          omega
        | false =>
          have := hDM.1 _ _ _ _ (first_M (adX := adX) (adK := adK) hk hi) (first_M (adX := adX) (adK := adK) hk' hi') hpq
          rw [← (all_M k (kd_lt hk) hk hi).2.2.1, ← (all_M k' (kd_lt hk') hk' hi').2.2.1, this]
    subst this
    exact va_nd_inj Ks Ks_nd i j k e1 e2
  · obtain ⟨k, -, hk, rfl⟩ := key i q hq
    exact ⟨k, hk, rfl⟩
end FIRST
