theorem lk_law : (Cond.classLink R_law 7 (RN 7) ∈ lwg ∧ Cond.methodLink R_law 9 (gNm 7) ∈ lwg ∧ Cond.instanceMethod (gNm 7) ∈ lwg) ∧ Cond.classLink R_law 10 (RN 8) ∈ lwg ∧ Cond.methodLink R_law 12 (gNm 8) ∈ lwg ∧ Cond.instanceMethod (gNm 8) ∈ lwg := by decide +kernel
theorem gw_one {cA : Nat → ClassId} {q ci : Nat} : gwd cA (fun _ => q) [.inl (ci, dF ci)] = [(q, .inr (ci, dF ci))] := by
  show [(q, Sum.inr (ci, (dF ci).map (cv (fun _ => q))))] = _
  rw [dF_cv]
set_option maxHeartbeats 4000000 in
set_option maxRecDepth 100000 in
/-- NOT the claim: whole_start with one premise more, LossCls -/
theorem start_if {p : Program} {e : Env} {s : State} {m : MethodId} {below : List Frame} {meth : Method} {c : Code} (l : Launch) {b L : Nat} {xs : Nat → Int32} (hL : L ≤ 3584) (C0 : lw_At p s m meth c b L xs) (hLC : LossCls s b) : W p l e room_1 s m #[Value.ref b] below meth c s.heap [] 0 0 (lw_Z below #[Value.ref b] s) (entryFrame m ([Value.ref b] : List Value).toArray 4) := by
  obtain ⟨hx, hb, hr, hml, hown, hts, hX, hbl, hlocks, hgv⟩ := id C0
  have hfl : ∀ w ∈ FN, w.before #[Value.ref b] s = true := flat_of_before _ hgv
  have htg : ∀ w ∈ lwg, w.before #[Value.ref b] s = true := fun w hw => hts w (List.mem_filter.mp hw).1
  obtain ⟨D, cA, hK⟩ := start_K (b := b) htg (fun ci hc => va_AO.of (hts _ (fn_N.2.2 ci hc)))
  obtain ⟨t, hXW⟩ := start_X hts hfl hK hLC
  obtain ⟨adK, adV, hSW⟩ := start_str hts hfl
  have hA : ∀ q : Nat, s.heap.size ≤ q → AS s.heap.size q := fun _ h => h
  have hS : va_S (AS s.heap.size) s.heap s.heap [] := va_S.rf
  have hP : va_P D vwCl [] s.heap := fun k q h => by simp at h
  have hD : va_D (AS s.heap.size) [] := ⟨fun i j p q h => by simp at h, fun k q h => by simp at h⟩
  have hl := lv_entry ([.ref b]) (n := 4) (Nat.le_of_ble_eq_true rfl)
  rw [lg_entry_eq]
  generalize (lg_sl ([.ref b]) ++ List.replicate (4 - (lg_sl ([.ref b])).length) Slot.unset).toArray = ls at hl ⊢
  have hl : lv_has ls 4 [(0, .ref b)] := hl
  refine va_new (ci := 7) (fs := dF 7) (C := RN 7) (T := TT 7) (N := NF 7) hx hb htg (lay_in 7 (by decide)) (tyT 7) (ty_ok 7 (by decide)) hown (htg _ lk_law.1.1) (htg _ (iw_in 7 (by decide)).1) (htg _ (iw_in 7 (by decide)).2) hK hP hD hS hA (vwCl_at 7 (by decide)) (dF_ok 7 (by decide)) (by decide) (by decide) dL_law_0 (fun q0 H1 hP1 hD1 hS1 => ?_)
  have hP1 : va_P D vwCl (gwd cA (fun _ => q0) [.inl (7, dF 7)]) H1 := by rw [gw_one]; exact hP1
  have hD1 : va_D (AS s.heap.size) (gwd cA (fun _ => q0) [.inl (7, dF 7)]) := by rw [gw_one]; exact hD1
  refine lv_dup hx hb dL_law_3 rfl ?_
  have hM := met_of_VG (l := l) (D := D) (cA := cA) (S0 := s.heap.size) (t := t) (as := [.ref 0]) (ad := fun _ => q0) (g := 7) (by decide) rfl (by decide) (gexec_VG 1500 7 0 _ [] _ 0 0 GX (by decide) run_X)
  obtain ⟨-, -, hmv, hnm, hini⟩ := gN_ok 7 (by decide)
  have cw : CallB room_1 s #[Value.ref b] R_law 9 (gNm 7) (gCd 7) (gL 7) none (wsG 7) (rmG 7) (gMc 7) (gMs 7) (gP 7) := callB_of (gP 7) htg (wsG_good (by decide)) rfl rfl rfl (htg _ hini) (htg _ lk_law.1.2.1) hmv ⟨by decide, by decide⟩
  refine W_runG (va_runI (As := []) (rest := [.ref q0]) (b := q0) (g := F0 m 4 ls [.ref q0, .ref q0]) ⟨hx, hb, hml, hown, htg⟩ hM ⟨cw, hnm (by decide), htg _ lk_law.1.2.2⟩ ⟨PG_blind, fun U hU hWm => PG_at (as := [.ref 0]) hU hWm hK hXW (Nat.le_refl _) hP1 hD1 hS1⟩ rfl rfl hl.1 rfl (lv_room (Nat.le_of_ble_eq_true rfl)) dL_law_4 ⟨by decide, by decide⟩) (fun v st₀ T L2 hh hq hvm hL2 => ?_)
  obtain ⟨hv, adX, hupX, hPX, hDX, hFX⟩ := hq
  cases hv
  have hq0 : adX 0 = q0 := hupX 0 (by decide)
  have hS2 : va_S (AS s.heap.size) s.heap T.heap [] := ⟨Nat.le_trans hS1.1 (by rw [← hh]; exact hFX.1), fun q h1 h2 => by
    rw [hFX.2 q (by rw [hh]; exact Nat.lt_of_lt_of_le h1 hS1.1) h2, hh]
    exact hS1.2.1 q h1 h2, fun q hq => by cases hq⟩
  refine va_forget (fun q hq => by
    rcases List.mem_append.mp hq with z | z
    · cases z
    · exact hL2 q z) ?_
  refine lv_astore_n (lv' := [(1, .ref q0), (0, .ref b)]) hx hb dL_law_7 rfl hl (by decide) rfl (fun ls hl => ?_)
  obtain ⟨H2, hH2⟩ : ∃ H2, H2 = T.heap := ⟨_, rfl⟩
  rw [← hH2] at hPX hS2 ⊢
  have hP2 : va_P D vwCl [] H2 := fun k q h => by simp at h
  have hD2 : va_D (AS H2.size) [] := ⟨fun i j p q h => by simp at h, fun k q h => by simp at h⟩
  refine va_new (A := AS H2.size) (H0 := H2) (ci := 8) (fs := dF 8) (C := RN 8) (T := TT 8) (N := NF 8) hx hb htg (lay_in 8 (by decide)) (tyT 8) (ty_ok 8 (by decide)) hown (htg _ lk_law.2.1) (htg _ (iw_in 8 (by decide)).1) (htg _ (iw_in 8 (by decide)).2) hK hP2 hD2 va_S.rf (fun _ h => h) (vwCl_at 8 (by decide)) (dF_ok 8 (by decide)) (by decide) (by decide) dL_law_8 (fun q8 H3 hP3 hD3 hS3 => ?_)
  have hP3 : va_P D vwCl (gwd cA (fun _ => q8) [.inl (8, dF 8)]) H3 := by rw [gw_one]; exact hP3
  have hD3 : va_D (AS H2.size) (gwd cA (fun _ => q8) [.inl (8, dF 8)]) := by rw [gw_one]; exact hD3
  have hk3 : ∀ q, q < H2.size → H3[q]? = H2[q]? := fun q hq => hS3.2.1 q hq (Nat.not_le.mpr hq)
  have hXW3 : XW cA H2.size t s H3 := (((hXW.kept hS2.2.1).kept (fun a h1 _ => hk3 a h1)).up hS2.1)
  refine lv_dup hx hb dL_law_11 rfl ?_
  have hM8 := met_of_VG (l := l) (D := D) (cA := cA) (S0 := H2.size) (t := t) (as := [.ref 0]) (ad := fun _ => q8) (g := 8) (by decide) rfl (by decide) (gexec_VG 1500 8 0 _ [] _ 0 0 GM (by decide) run_M)
  obtain ⟨-, -, hmv8, hnm8, hini8⟩ := gN_ok 8 (by decide)
  have cw8 : CallB room_1 s #[Value.ref b] R_law 12 (gNm 8) (gCd 8) (gL 8) none (wsG 8) (rmG 8) (gMc 8) (gMs 8) (gP 8) := callB_of (gP 8) htg (wsG_good (by decide)) rfl rfl rfl (htg _ hini8) (htg _ lk_law.2.2.1) hmv8 ⟨by decide, by decide⟩
  refine W_runG (va_runI (As := []) (rest := [.ref q8]) (b := q8) (g := F0 m 12 ls [.ref q8, .ref q8]) ⟨hx, hb, hml, hown, htg⟩ hM8 ⟨cw8, hnm8 (by decide), htg _ lk_law.2.2.2⟩ ⟨PG_blind, fun U hU hWm => ⟨rfl, by rw [hU]; exact hP3, va_K.moved hWm.alike hK, hD3, by rw [hU]; exact XW.warm hWm hXW3, by rw [hU]; exact hS3.1⟩⟩ rfl rfl hl.1 rfl (lv_room (Nat.le_of_ble_eq_true rfl)) dL_law_12 ⟨by decide, by decide⟩) (fun v st₁ T4 L4 hh4 hq hvm4 hL4 => ?_)
  obtain ⟨hv, adM, hupM, hPM, hDM, hFM⟩ := hq
  cases hv
  have hq8 : adM 0 = q8 := hupM 0 (by decide)
  have hk4 : ∀ q, q < H2.size → T4.heap[q]? = H2[q]? := fun q hq => by
    rw [hFM.2 q (by rw [hh4]; exact Nat.lt_of_lt_of_le hq hS3.1) (Nat.not_le.mpr hq), hh4]
    exact hk3 q hq
  have hS4 : va_S (AS s.heap.size) s.heap T4.heap ([] ++ L4) := ⟨Nat.le_trans hS2.1 (Nat.le_trans hS3.1 (by rw [← hh4]; exact hFM.1)), fun q h1 h2 => by
    rw [hk4 q (Nat.lt_of_lt_of_le h1 hS2.1)]
    exact hS2.2.1 q h1 h2, fun q hq => Nat.le_trans hS2.1 (hL4 q hq)⟩
  have hPX4 : va_P D vwCl (gwd cA adX GX) T4.heap := hPX.kept (fun k q hq => hk4 q.1 (hPX k q hq).lt)
  obtain ⟨hPW, hDW, hlow⟩ := first_ok (adK := fun k => adK (k - 700)) hPX4 hDX hPM hDM hS2.1 (fun k q hq => (hPX k q hq).lt)
  have e0 : adW adX adM (fun k => adK (k - 700)) 0 = q0 := hq0
  have e6 : adW adX adM (fun k => adK (k - 700)) 600 = q8 := hq8
  have LXh : LX p e s m below meth c l b L xs D cA (adW adX adM (fun k => adK (k - 700))) adV := by
    refine ⟨C0, hK, hSW _ (fun i hi => ?_) _ (fun q hq => ?_), fun h => wl_D hDW, hlow⟩
    · unfold adW isX
      have h1 : ¬ 700 + i < 17 := by omega
      have h2 : ¬ 1000 ≤ 700 + i := by omega
      have h3 : ¬ 700 + i < 700 := by omega
      simp [h1, h2, h3]
    · obtain ⟨k, hk, rfl⟩ := hq
      exact hlow k hk
  refine lv_astore_n (lv' := [(2, .ref q8), (1, .ref q0), (0, .ref b)]) hx hb dL_law_15 rfl hl (by decide) rfl (fun ls hl => ?_)
  refine lv_iconst (v := nI (7 * 0)) hx hb dL_law_16 (by decide) ?_
  refine lv_istore_n (lv' := [(3, .int (nI (7 * 0))), (2, .ref q8), (1, .ref q0), (0, .ref b)]) hx hb dL_law_17 rfl hl (by decide) rfl (fun ls hl => ?_)
  exact law_loop LXh hL ⟨by decide, by decide⟩ (L + 1) 0 h0 T4.heap _ ls (by omega) (by omega) Inv_0 Bo_0 hPW hS4 (by rw [e0, e6]; exact hl)
